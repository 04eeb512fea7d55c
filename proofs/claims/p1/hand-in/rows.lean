section
-- ===== PART A: goes FIRST, ahead of the names: the tables' words, and 'selects' of the private methods out of them =====
/-- a private method of a class that the tables say can be made, by its rows of tables_1 -/
def lw_okq (q : MethodName × Nat) : Prop := (q.1.cls ≠ "java/lang/invoke/MethodHandle" ∧ q.1.cls ≠ "java/lang/invoke/VarHandle") ∧ Cond.instantiable q.1.cls q.2 ∈ tables_1 ∧ Cond.privateMethod q.1 ∈ tables_1 ∧ Cond.instanceMethod q.1 ∈ tables_1
theorem lw_p0 : lw_okq (⟨"MixStage$Tokens", "learn", "(ILjava/lang/String;)V"⟩, 5) := ⟨⟨by decide +kernel, by decide +kernel⟩, List.mem_of_getElem? (i := 144) (by decide +kernel), List.mem_of_getElem? (i := 151) (by decide +kernel), List.mem_of_getElem? (i := 152) (by decide +kernel)⟩
theorem lw_p1 : lw_okq (⟨"MixStage", "putWord", "(I)V"⟩, 12) := ⟨⟨by decide +kernel, by decide +kernel⟩, List.mem_of_getElem? (i := 22) (by decide +kernel), List.mem_of_getElem? (i := 527) (by decide +kernel), List.mem_of_getElem? (i := 528) (by decide +kernel)⟩
theorem lw_p2 : lw_okq (⟨"MixStage$Reader", "check", "([II)I"⟩, 16) := ⟨⟨by decide +kernel, by decide +kernel⟩, List.mem_of_getElem? (i := 138) (by decide +kernel), List.mem_of_getElem? (i := 540) (by decide +kernel), List.mem_of_getElem? (i := 541) (by decide +kernel)⟩
theorem lw_p3 : lw_okq (⟨"MixStage$Tokens", "scan", "([II)V"⟩, 5) := ⟨⟨by decide +kernel, by decide +kernel⟩, List.mem_of_getElem? (i := 144) (by decide +kernel), List.mem_of_getElem? (i := 544) (by decide +kernel), List.mem_of_getElem? (i := 545) (by decide +kernel)⟩
theorem lw_p4 : lw_okq (⟨"MixStage$Tokens", "scanOne", "([III)I"⟩, 5) := ⟨⟨by decide +kernel, by decide +kernel⟩, List.mem_of_getElem? (i := 144) (by decide +kernel), List.mem_of_getElem? (i := 548) (by decide +kernel), List.mem_of_getElem? (i := 549) (by decide +kernel)⟩
theorem lw_p5 : lw_okq (⟨"MixStage$Tokens", "scanName", "([III)I"⟩, 5) := ⟨⟨by decide +kernel, by decide +kernel⟩, List.mem_of_getElem? (i := 144) (by decide +kernel), List.mem_of_getElem? (i := 555) (by decide +kernel), List.mem_of_getElem? (i := 556) (by decide +kernel)⟩
theorem lw_p6 : lw_okq (⟨"MixStage$Tokens", "wordKind", "(J)I"⟩, 5) := ⟨⟨by decide +kernel, by decide +kernel⟩, List.mem_of_getElem? (i := 144) (by decide +kernel), List.mem_of_getElem? (i := 559) (by decide +kernel), List.mem_of_getElem? (i := 560) (by decide +kernel)⟩
theorem lw_p7 : lw_okq (⟨"MixStage$Tokens", "note", "(IIJ)V"⟩, 5) := ⟨⟨by decide +kernel, by decide +kernel⟩, List.mem_of_getElem? (i := 144) (by decide +kernel), List.mem_of_getElem? (i := 566) (by decide +kernel), List.mem_of_getElem? (i := 567) (by decide +kernel)⟩
theorem lw_p8 : lw_okq (⟨"MixStage$Tokens", "scanInt", "([III)I"⟩, 5) := ⟨⟨by decide +kernel, by decide +kernel⟩, List.mem_of_getElem? (i := 144) (by decide +kernel), List.mem_of_getElem? (i := 571) (by decide +kernel), List.mem_of_getElem? (i := 572) (by decide +kernel)⟩
theorem lw_p9 : lw_okq (⟨"MixStage$Reader", "start", "()V"⟩, 16) := ⟨⟨by decide +kernel, by decide +kernel⟩, List.mem_of_getElem? (i := 138) (by decide +kernel), List.mem_of_getElem? (i := 585) (by decide +kernel), List.mem_of_getElem? (i := 586) (by decide +kernel)⟩
theorem lw_p10 : lw_okq (⟨"MixStage$Tokens", "kindOf", "(I)I"⟩, 5) := ⟨⟨by decide +kernel, by decide +kernel⟩, List.mem_of_getElem? (i := 144) (by decide +kernel), List.mem_of_getElem? (i := 589) (by decide +kernel), List.mem_of_getElem? (i := 590) (by decide +kernel)⟩
theorem lw_p11 : lw_okq (⟨"MixStage$Reader", "beginBlock", "()V"⟩, 16) := ⟨⟨by decide +kernel, by decide +kernel⟩, List.mem_of_getElem? (i := 138) (by decide +kernel), List.mem_of_getElem? (i := 593) (by decide +kernel), List.mem_of_getElem? (i := 594) (by decide +kernel)⟩
theorem lw_p12 : lw_okq (⟨"MixStage$Reader", "fail", "(I)V"⟩, 16) := ⟨⟨by decide +kernel, by decide +kernel⟩, List.mem_of_getElem? (i := 138) (by decide +kernel), List.mem_of_getElem? (i := 597) (by decide +kernel), List.mem_of_getElem? (i := 598) (by decide +kernel)⟩
theorem lw_p13 : lw_okq (⟨"MixStage$Reader", "take", "(I)V"⟩, 16) := ⟨⟨by decide +kernel, by decide +kernel⟩, List.mem_of_getElem? (i := 138) (by decide +kernel), List.mem_of_getElem? (i := 601) (by decide +kernel), List.mem_of_getElem? (i := 602) (by decide +kernel)⟩
theorem lw_p14 : lw_okq (⟨"MixStage$Tokens", "valueOf", "(I)J"⟩, 5) := ⟨⟨by decide +kernel, by decide +kernel⟩, List.mem_of_getElem? (i := 144) (by decide +kernel), List.mem_of_getElem? (i := 605) (by decide +kernel), List.mem_of_getElem? (i := 606) (by decide +kernel)⟩
theorem lw_p15 : lw_okq (⟨"MixStage$Reader", "blockOf", "(J)I"⟩, 16) := ⟨⟨by decide +kernel, by decide +kernel⟩, List.mem_of_getElem? (i := 138) (by decide +kernel), List.mem_of_getElem? (i := 609) (by decide +kernel), List.mem_of_getElem? (i := 610) (by decide +kernel)⟩
def lw_privs_1 : List (MethodName × Nat) := [(⟨"MixStage$Tokens", "learn", "(ILjava/lang/String;)V"⟩, 5), (⟨"MixStage", "putWord", "(I)V"⟩, 12), (⟨"MixStage$Reader", "check", "([II)I"⟩, 16), (⟨"MixStage$Tokens", "scan", "([II)V"⟩, 5), (⟨"MixStage$Tokens", "scanOne", "([III)I"⟩, 5), (⟨"MixStage$Tokens", "scanName", "([III)I"⟩, 5), (⟨"MixStage$Tokens", "wordKind", "(J)I"⟩, 5), (⟨"MixStage$Tokens", "note", "(IIJ)V"⟩, 5), (⟨"MixStage$Tokens", "scanInt", "([III)I"⟩, 5), (⟨"MixStage$Reader", "start", "()V"⟩, 16), (⟨"MixStage$Tokens", "kindOf", "(I)I"⟩, 5), (⟨"MixStage$Reader", "beginBlock", "()V"⟩, 16), (⟨"MixStage$Reader", "fail", "(I)V"⟩, 16), (⟨"MixStage$Reader", "take", "(I)V"⟩, 16), (⟨"MixStage$Tokens", "valueOf", "(I)J"⟩, 5), (⟨"MixStage$Reader", "blockOf", "(J)I"⟩, 16)]
theorem lw_r1 : ∀ q ∈ lw_privs_1, lw_okq q := List.forall_mem_cons.mpr ⟨lw_p0, List.forall_mem_cons.mpr ⟨lw_p1, List.forall_mem_cons.mpr ⟨lw_p2, List.forall_mem_cons.mpr ⟨lw_p3, List.forall_mem_cons.mpr ⟨lw_p4, List.forall_mem_cons.mpr ⟨lw_p5, List.forall_mem_cons.mpr ⟨lw_p6, List.forall_mem_cons.mpr ⟨lw_p7, List.forall_mem_cons.mpr ⟨lw_p8, List.forall_mem_cons.mpr ⟨lw_p9, List.forall_mem_cons.mpr ⟨lw_p10, List.forall_mem_cons.mpr ⟨lw_p11, List.forall_mem_cons.mpr ⟨lw_p12, List.forall_mem_cons.mpr ⟨lw_p13, List.forall_mem_cons.mpr ⟨lw_p14, List.forall_mem_cons.mpr ⟨lw_p15, fun _ h => absurd h List.not_mem_nil⟩⟩⟩⟩⟩⟩⟩⟩⟩⟩⟩⟩⟩⟩⟩⟩
theorem lw_p16 : lw_okq (⟨"MixStage$Reader", "blame", "(II)V"⟩, 16) := ⟨⟨by decide +kernel, by decide +kernel⟩, List.mem_of_getElem? (i := 138) (by decide +kernel), List.mem_of_getElem? (i := 614) (by decide +kernel), List.mem_of_getElem? (i := 615) (by decide +kernel)⟩
theorem lw_p17 : lw_okq (⟨"MixStage$Reader", "readCues", "()V"⟩, 16) := ⟨⟨by decide +kernel, by decide +kernel⟩, List.mem_of_getElem? (i := 138) (by decide +kernel), List.mem_of_getElem? (i := 619) (by decide +kernel), List.mem_of_getElem? (i := 620) (by decide +kernel)⟩
theorem lw_p18 : lw_okq (⟨"MixStage$Reader", "cueAt", "(II)LMixStage$Cue;"⟩, 16) := ⟨⟨by decide +kernel, by decide +kernel⟩, List.mem_of_getElem? (i := 138) (by decide +kernel), List.mem_of_getElem? (i := 626) (by decide +kernel), List.mem_of_getElem? (i := 627) (by decide +kernel)⟩
theorem lw_p19 : lw_okq (⟨"MixStage$Tokens", "placeOf", "(I)I"⟩, 5) := ⟨⟨by decide +kernel, by decide +kernel⟩, List.mem_of_getElem? (i := 144) (by decide +kernel), List.mem_of_getElem? (i := 630) (by decide +kernel), List.mem_of_getElem? (i := 631) (by decide +kernel)⟩
theorem lw_p20 : lw_okq (⟨"MixStage$Cue", "reset", "(II)V"⟩, 19) := ⟨⟨by decide +kernel, by decide +kernel⟩, List.mem_of_getElem? (i := 233) (by decide +kernel), List.mem_of_getElem? (i := 634) (by decide +kernel), List.mem_of_getElem? (i := 635) (by decide +kernel)⟩
theorem lw_p21 : lw_okq (⟨"MixStage$Reader", "readLay", "(LMixStage$Cue;)V"⟩, 16) := ⟨⟨by decide +kernel, by decide +kernel⟩, List.mem_of_getElem? (i := 138) (by decide +kernel), List.mem_of_getElem? (i := 638) (by decide +kernel), List.mem_of_getElem? (i := 639) (by decide +kernel)⟩
theorem lw_p22 : lw_okq (⟨"MixStage$Reader", "takeInt", "(II)I"⟩, 16) := ⟨⟨by decide +kernel, by decide +kernel⟩, List.mem_of_getElem? (i := 138) (by decide +kernel), List.mem_of_getElem? (i := 642) (by decide +kernel), List.mem_of_getElem? (i := 643) (by decide +kernel)⟩
theorem lw_p23 : lw_okq (⟨"MixStage$Reader", "readTime", "(LMixStage$Cue;Z)V"⟩, 16) := ⟨⟨by decide +kernel, by decide +kernel⟩, List.mem_of_getElem? (i := 138) (by decide +kernel), List.mem_of_getElem? (i := 646) (by decide +kernel), List.mem_of_getElem? (i := 647) (by decide +kernel)⟩
theorem lw_p24 : lw_okq (⟨"MixStage$Reader", "readFade", "(LMixStage$Cue;)V"⟩, 16) := ⟨⟨by decide +kernel, by decide +kernel⟩, List.mem_of_getElem? (i := 138) (by decide +kernel), List.mem_of_getElem? (i := 650) (by decide +kernel), List.mem_of_getElem? (i := 651) (by decide +kernel)⟩
theorem lw_p25 : lw_okq (⟨"MixStage$Reader", "readDip", "(LMixStage$Cue;)V"⟩, 16) := ⟨⟨by decide +kernel, by decide +kernel⟩, List.mem_of_getElem? (i := 138) (by decide +kernel), List.mem_of_getElem? (i := 654) (by decide +kernel), List.mem_of_getElem? (i := 655) (by decide +kernel)⟩
theorem lw_p26 : lw_okq (⟨"MixStage$Reader", "readTaps", "(LMixStage$Cue;)V"⟩, 16) := ⟨⟨by decide +kernel, by decide +kernel⟩, List.mem_of_getElem? (i := 138) (by decide +kernel), List.mem_of_getElem? (i := 658) (by decide +kernel), List.mem_of_getElem? (i := 659) (by decide +kernel)⟩
theorem lw_p27 : lw_okq (⟨"MixStage$Reader", "readWeight", "(LMixStage$Cue;)V"⟩, 16) := ⟨⟨by decide +kernel, by decide +kernel⟩, List.mem_of_getElem? (i := 138) (by decide +kernel), List.mem_of_getElem? (i := 662) (by decide +kernel), List.mem_of_getElem? (i := 663) (by decide +kernel)⟩
theorem lw_p28 : lw_okq (⟨"MixStage$Reader", "readUse", "(LMixStage$Cue;)V"⟩, 16) := ⟨⟨by decide +kernel, by decide +kernel⟩, List.mem_of_getElem? (i := 138) (by decide +kernel), List.mem_of_getElem? (i := 667) (by decide +kernel), List.mem_of_getElem? (i := 668) (by decide +kernel)⟩
theorem lw_p29 : lw_okq (⟨"MixStage$Reader", "endBlock", "()V"⟩, 16) := ⟨⟨by decide +kernel, by decide +kernel⟩, List.mem_of_getElem? (i := 138) (by decide +kernel), List.mem_of_getElem? (i := 672) (by decide +kernel), List.mem_of_getElem? (i := 673) (by decide +kernel)⟩
theorem lw_p30 : lw_okq (⟨"MixStage$Reader", "readRules", "()V"⟩, 16) := ⟨⟨by decide +kernel, by decide +kernel⟩, List.mem_of_getElem? (i := 138) (by decide +kernel), List.mem_of_getElem? (i := 676) (by decide +kernel), List.mem_of_getElem? (i := 677) (by decide +kernel)⟩
theorem lw_p31 : lw_okq (⟨"MixStage$Rules", "empty", "()V"⟩, 12) := ⟨⟨by decide +kernel, by decide +kernel⟩, List.mem_of_getElem? (i := 32) (by decide +kernel), List.mem_of_getElem? (i := 680) (by decide +kernel), List.mem_of_getElem? (i := 681) (by decide +kernel)⟩
def lw_privs_2 : List (MethodName × Nat) := [(⟨"MixStage$Reader", "blame", "(II)V"⟩, 16), (⟨"MixStage$Reader", "readCues", "()V"⟩, 16), (⟨"MixStage$Reader", "cueAt", "(II)LMixStage$Cue;"⟩, 16), (⟨"MixStage$Tokens", "placeOf", "(I)I"⟩, 5), (⟨"MixStage$Cue", "reset", "(II)V"⟩, 19), (⟨"MixStage$Reader", "readLay", "(LMixStage$Cue;)V"⟩, 16), (⟨"MixStage$Reader", "takeInt", "(II)I"⟩, 16), (⟨"MixStage$Reader", "readTime", "(LMixStage$Cue;Z)V"⟩, 16), (⟨"MixStage$Reader", "readFade", "(LMixStage$Cue;)V"⟩, 16), (⟨"MixStage$Reader", "readDip", "(LMixStage$Cue;)V"⟩, 16), (⟨"MixStage$Reader", "readTaps", "(LMixStage$Cue;)V"⟩, 16), (⟨"MixStage$Reader", "readWeight", "(LMixStage$Cue;)V"⟩, 16), (⟨"MixStage$Reader", "readUse", "(LMixStage$Cue;)V"⟩, 16), (⟨"MixStage$Reader", "endBlock", "()V"⟩, 16), (⟨"MixStage$Reader", "readRules", "()V"⟩, 16), (⟨"MixStage$Rules", "empty", "()V"⟩, 12)]
theorem lw_r2 : ∀ q ∈ lw_privs_2, lw_okq q := List.forall_mem_cons.mpr ⟨lw_p16, List.forall_mem_cons.mpr ⟨lw_p17, List.forall_mem_cons.mpr ⟨lw_p18, List.forall_mem_cons.mpr ⟨lw_p19, List.forall_mem_cons.mpr ⟨lw_p20, List.forall_mem_cons.mpr ⟨lw_p21, List.forall_mem_cons.mpr ⟨lw_p22, List.forall_mem_cons.mpr ⟨lw_p23, List.forall_mem_cons.mpr ⟨lw_p24, List.forall_mem_cons.mpr ⟨lw_p25, List.forall_mem_cons.mpr ⟨lw_p26, List.forall_mem_cons.mpr ⟨lw_p27, List.forall_mem_cons.mpr ⟨lw_p28, List.forall_mem_cons.mpr ⟨lw_p29, List.forall_mem_cons.mpr ⟨lw_p30, List.forall_mem_cons.mpr ⟨lw_p31, fun _ h => absurd h List.not_mem_nil⟩⟩⟩⟩⟩⟩⟩⟩⟩⟩⟩⟩⟩⟩⟩⟩
theorem lw_p32 : lw_okq (⟨"MixStage$Reader", "readRight", "()V"⟩, 16) := ⟨⟨by decide +kernel, by decide +kernel⟩, List.mem_of_getElem? (i := 138) (by decide +kernel), List.mem_of_getElem? (i := 687) (by decide +kernel), List.mem_of_getElem? (i := 688) (by decide +kernel)⟩
theorem lw_p33 : lw_okq (⟨"MixStage$Rules", "beginRule", "()V"⟩, 12) := ⟨⟨by decide +kernel, by decide +kernel⟩, List.mem_of_getElem? (i := 32) (by decide +kernel), List.mem_of_getElem? (i := 691) (by decide +kernel), List.mem_of_getElem? (i := 692) (by decide +kernel)⟩
theorem lw_p34 : lw_okq (⟨"MixStage$Reader", "readSum", "()V"⟩, 16) := ⟨⟨by decide +kernel, by decide +kernel⟩, List.mem_of_getElem? (i := 138) (by decide +kernel), List.mem_of_getElem? (i := 696) (by decide +kernel), List.mem_of_getElem? (i := 697) (by decide +kernel)⟩
theorem lw_p35 : lw_okq (⟨"MixStage$Reader", "hold", "(I)V"⟩, 16) := ⟨⟨by decide +kernel, by decide +kernel⟩, List.mem_of_getElem? (i := 138) (by decide +kernel), List.mem_of_getElem? (i := 700) (by decide +kernel), List.mem_of_getElem? (i := 701) (by decide +kernel)⟩
theorem lw_p36 : lw_okq (⟨"MixStage$Rules", "emit", "(I)V"⟩, 12) := ⟨⟨by decide +kernel, by decide +kernel⟩, List.mem_of_getElem? (i := 32) (by decide +kernel), List.mem_of_getElem? (i := 704) (by decide +kernel), List.mem_of_getElem? (i := 705) (by decide +kernel)⟩
theorem lw_p37 : lw_okq (⟨"MixStage$Reader", "release", "(I)V"⟩, 16) := ⟨⟨by decide +kernel, by decide +kernel⟩, List.mem_of_getElem? (i := 138) (by decide +kernel), List.mem_of_getElem? (i := 708) (by decide +kernel), List.mem_of_getElem? (i := 709) (by decide +kernel)⟩
theorem lw_p38 : lw_okq (⟨"MixStage$Rules", "endSum", "()V"⟩, 12) := ⟨⟨by decide +kernel, by decide +kernel⟩, List.mem_of_getElem? (i := 32) (by decide +kernel), List.mem_of_getElem? (i := 715) (by decide +kernel), List.mem_of_getElem? (i := 716) (by decide +kernel)⟩
theorem lw_p39 : lw_okq (⟨"MixStage$Reader", "readCondition", "()V"⟩, 16) := ⟨⟨by decide +kernel, by decide +kernel⟩, List.mem_of_getElem? (i := 138) (by decide +kernel), List.mem_of_getElem? (i := 719) (by decide +kernel), List.mem_of_getElem? (i := 720) (by decide +kernel)⟩
theorem lw_p40 : lw_okq (⟨"MixStage$Reader", "takeNots", "()Z"⟩, 16) := ⟨⟨by decide +kernel, by decide +kernel⟩, List.mem_of_getElem? (i := 138) (by decide +kernel), List.mem_of_getElem? (i := 723) (by decide +kernel), List.mem_of_getElem? (i := 724) (by decide +kernel)⟩
theorem lw_p41 : lw_okq (⟨"MixStage$Reader", "takeRelation", "()I"⟩, 16) := ⟨⟨by decide +kernel, by decide +kernel⟩, List.mem_of_getElem? (i := 138) (by decide +kernel), List.mem_of_getElem? (i := 727) (by decide +kernel), List.mem_of_getElem? (i := 728) (by decide +kernel)⟩
theorem lw_p42 : lw_okq (⟨"MixStage$Reader", "emitLiteral", "(IZ)V"⟩, 16) := ⟨⟨by decide +kernel, by decide +kernel⟩, List.mem_of_getElem? (i := 138) (by decide +kernel), List.mem_of_getElem? (i := 731) (by decide +kernel), List.mem_of_getElem? (i := 732) (by decide +kernel)⟩
theorem lw_p43 : lw_okq (⟨"MixStage$Rules", "endRight", "()V"⟩, 12) := ⟨⟨by decide +kernel, by decide +kernel⟩, List.mem_of_getElem? (i := 32) (by decide +kernel), List.mem_of_getElem? (i := 735) (by decide +kernel), List.mem_of_getElem? (i := 736) (by decide +kernel)⟩
theorem lw_p44 : lw_okq (⟨"MixStage$Reader", "readLoud", "()V"⟩, 16) := ⟨⟨by decide +kernel, by decide +kernel⟩, List.mem_of_getElem? (i := 138) (by decide +kernel), List.mem_of_getElem? (i := 739) (by decide +kernel), List.mem_of_getElem? (i := 740) (by decide +kernel)⟩
theorem lw_p45 : lw_okq (⟨"MixStage$Rules", "endLoud", "(II)V"⟩, 12) := ⟨⟨by decide +kernel, by decide +kernel⟩, List.mem_of_getElem? (i := 32) (by decide +kernel), List.mem_of_getElem? (i := 743) (by decide +kernel), List.mem_of_getElem? (i := 744) (by decide +kernel)⟩
theorem lw_p46 : lw_okq (⟨"MixStage$Reader", "endSheet", "(I)V"⟩, 16) := ⟨⟨by decide +kernel, by decide +kernel⟩, List.mem_of_getElem? (i := 138) (by decide +kernel), List.mem_of_getElem? (i := 747) (by decide +kernel), List.mem_of_getElem? (i := 748) (by decide +kernel)⟩
theorem lw_p47 : lw_okq (⟨"MixStage$Reader", "placeOfFault", "()I"⟩, 16) := ⟨⟨by decide +kernel, by decide +kernel⟩, List.mem_of_getElem? (i := 138) (by decide +kernel), List.mem_of_getElem? (i := 751) (by decide +kernel), List.mem_of_getElem? (i := 752) (by decide +kernel)⟩
def lw_privs_3 : List (MethodName × Nat) := [(⟨"MixStage$Reader", "readRight", "()V"⟩, 16), (⟨"MixStage$Rules", "beginRule", "()V"⟩, 12), (⟨"MixStage$Reader", "readSum", "()V"⟩, 16), (⟨"MixStage$Reader", "hold", "(I)V"⟩, 16), (⟨"MixStage$Rules", "emit", "(I)V"⟩, 12), (⟨"MixStage$Reader", "release", "(I)V"⟩, 16), (⟨"MixStage$Rules", "endSum", "()V"⟩, 12), (⟨"MixStage$Reader", "readCondition", "()V"⟩, 16), (⟨"MixStage$Reader", "takeNots", "()Z"⟩, 16), (⟨"MixStage$Reader", "takeRelation", "()I"⟩, 16), (⟨"MixStage$Reader", "emitLiteral", "(IZ)V"⟩, 16), (⟨"MixStage$Rules", "endRight", "()V"⟩, 12), (⟨"MixStage$Reader", "readLoud", "()V"⟩, 16), (⟨"MixStage$Rules", "endLoud", "(II)V"⟩, 12), (⟨"MixStage$Reader", "endSheet", "(I)V"⟩, 16), (⟨"MixStage$Reader", "placeOfFault", "()I"⟩, 16)]
theorem lw_r3 : ∀ q ∈ lw_privs_3, lw_okq q := List.forall_mem_cons.mpr ⟨lw_p32, List.forall_mem_cons.mpr ⟨lw_p33, List.forall_mem_cons.mpr ⟨lw_p34, List.forall_mem_cons.mpr ⟨lw_p35, List.forall_mem_cons.mpr ⟨lw_p36, List.forall_mem_cons.mpr ⟨lw_p37, List.forall_mem_cons.mpr ⟨lw_p38, List.forall_mem_cons.mpr ⟨lw_p39, List.forall_mem_cons.mpr ⟨lw_p40, List.forall_mem_cons.mpr ⟨lw_p41, List.forall_mem_cons.mpr ⟨lw_p42, List.forall_mem_cons.mpr ⟨lw_p43, List.forall_mem_cons.mpr ⟨lw_p44, List.forall_mem_cons.mpr ⟨lw_p45, List.forall_mem_cons.mpr ⟨lw_p46, List.forall_mem_cons.mpr ⟨lw_p47, fun _ h => absurd h List.not_mem_nil⟩⟩⟩⟩⟩⟩⟩⟩⟩⟩⟩⟩⟩⟩⟩⟩
theorem lw_p48 : lw_okq (⟨"MixStage$Reader", "exchange", "(LMixStage$Rules;)LMixStage$Rules;"⟩, 16) := ⟨⟨by decide +kernel, by decide +kernel⟩, List.mem_of_getElem? (i := 138) (by decide +kernel), List.mem_of_getElem? (i := 755) (by decide +kernel), List.mem_of_getElem? (i := 756) (by decide +kernel)⟩
theorem lw_p49 : lw_okq (⟨"MixStage", "tellSheet", "()V"⟩, 12) := ⟨⟨by decide +kernel, by decide +kernel⟩, List.mem_of_getElem? (i := 22) (by decide +kernel), List.mem_of_getElem? (i := 759) (by decide +kernel), List.mem_of_getElem? (i := 760) (by decide +kernel)⟩
theorem lw_p50 : lw_okq (⟨"MixStage$Picture", "last", "()I"⟩, 5) := ⟨⟨by decide +kernel, by decide +kernel⟩, List.mem_of_getElem? (i := 78) (by decide +kernel), List.mem_of_getElem? (i := 764) (by decide +kernel), List.mem_of_getElem? (i := 765) (by decide +kernel)⟩
theorem lw_p51 : lw_okq (⟨"MixStage$Reader", "fill", "(LMixStage$Sheet;)V"⟩, 16) := ⟨⟨by decide +kernel, by decide +kernel⟩, List.mem_of_getElem? (i := 138) (by decide +kernel), List.mem_of_getElem? (i := 797) (by decide +kernel), List.mem_of_getElem? (i := 798) (by decide +kernel)⟩
theorem lw_p52 : lw_okq (⟨"MixStage$Sheet", "add", "(LMixStage$Cue;II)V"⟩, 5) := ⟨⟨by decide +kernel, by decide +kernel⟩, List.mem_of_getElem? (i := 762) (by decide +kernel), List.mem_of_getElem? (i := 804) (by decide +kernel), List.mem_of_getElem? (i := 805) (by decide +kernel)⟩
theorem lw_p53 : lw_okq (⟨"MixStage$Cue", "copy", "(LMixStage$Cue;)V"⟩, 19) := ⟨⟨by decide +kernel, by decide +kernel⟩, List.mem_of_getElem? (i := 233) (by decide +kernel), List.mem_of_getElem? (i := 809) (by decide +kernel), List.mem_of_getElem? (i := 810) (by decide +kernel)⟩
theorem lw_p54 : lw_okq (⟨"MixStage$Cue", "shift", "(II)V"⟩, 19) := ⟨⟨by decide +kernel, by decide +kernel⟩, List.mem_of_getElem? (i := 233) (by decide +kernel), List.mem_of_getElem? (i := 816) (by decide +kernel), List.mem_of_getElem? (i := 817) (by decide +kernel)⟩
theorem lw_p55 : lw_okq (⟨"MixStage$Cue", "hasTime", "()Z"⟩, 19) := ⟨⟨by decide +kernel, by decide +kernel⟩, List.mem_of_getElem? (i := 233) (by decide +kernel), List.mem_of_getElem? (i := 820) (by decide +kernel), List.mem_of_getElem? (i := 821) (by decide +kernel)⟩
theorem lw_p56 : lw_okq (⟨"MixStage$Picture", "tellLast", "()V"⟩, 5) := ⟨⟨by decide +kernel, by decide +kernel⟩, List.mem_of_getElem? (i := 78) (by decide +kernel), List.mem_of_getElem? (i := 824) (by decide +kernel), List.mem_of_getElem? (i := 825) (by decide +kernel)⟩
theorem lw_p57 : lw_okq (⟨"MixStage$Picture", "resize", "(I)Z"⟩, 5) := ⟨⟨by decide +kernel, by decide +kernel⟩, List.mem_of_getElem? (i := 78) (by decide +kernel), List.mem_of_getElem? (i := 837) (by decide +kernel), List.mem_of_getElem? (i := 838) (by decide +kernel)⟩
theorem lw_p58 : lw_okq (⟨"MixStage$Picture", "begin", "()I"⟩, 5) := ⟨⟨by decide +kernel, by decide +kernel⟩, List.mem_of_getElem? (i := 78) (by decide +kernel), List.mem_of_getElem? (i := 845) (by decide +kernel), List.mem_of_getElem? (i := 846) (by decide +kernel)⟩
theorem lw_p59 : lw_okq (⟨"MixStage$Picture", "sizeOf", "(I)I"⟩, 5) := ⟨⟨by decide +kernel, by decide +kernel⟩, List.mem_of_getElem? (i := 78) (by decide +kernel), List.mem_of_getElem? (i := 849) (by decide +kernel), List.mem_of_getElem? (i := 850) (by decide +kernel)⟩
theorem lw_p60 : lw_okq (⟨"MixStage$Picture", "extend", "(II)I"⟩, 5) := ⟨⟨by decide +kernel, by decide +kernel⟩, List.mem_of_getElem? (i := 78) (by decide +kernel), List.mem_of_getElem? (i := 859) (by decide +kernel), List.mem_of_getElem? (i := 860) (by decide +kernel)⟩
theorem lw_p61 : lw_okq (⟨"MixStage$Picture", "has", "(I)Z"⟩, 5) := ⟨⟨by decide +kernel, by decide +kernel⟩, List.mem_of_getElem? (i := 78) (by decide +kernel), List.mem_of_getElem? (i := 871) (by decide +kernel), List.mem_of_getElem? (i := 872) (by decide +kernel)⟩
theorem lw_p62 : lw_okq (⟨"MixStage$Picture", "cameFrom", "(III)I"⟩, 5) := ⟨⟨by decide +kernel, by decide +kernel⟩, List.mem_of_getElem? (i := 78) (by decide +kernel), List.mem_of_getElem? (i := 879) (by decide +kernel), List.mem_of_getElem? (i := 880) (by decide +kernel)⟩
theorem lw_p63 : lw_okq (⟨"MixStage$Bank", "add", "(IIIII)I"⟩, 8) := ⟨⟨by decide +kernel, by decide +kernel⟩, List.mem_of_getElem? (i := 103) (by decide +kernel), List.mem_of_getElem? (i := 887) (by decide +kernel), List.mem_of_getElem? (i := 888) (by decide +kernel)⟩
def lw_privs_4 : List (MethodName × Nat) := [(⟨"MixStage$Reader", "exchange", "(LMixStage$Rules;)LMixStage$Rules;"⟩, 16), (⟨"MixStage", "tellSheet", "()V"⟩, 12), (⟨"MixStage$Picture", "last", "()I"⟩, 5), (⟨"MixStage$Reader", "fill", "(LMixStage$Sheet;)V"⟩, 16), (⟨"MixStage$Sheet", "add", "(LMixStage$Cue;II)V"⟩, 5), (⟨"MixStage$Cue", "copy", "(LMixStage$Cue;)V"⟩, 19), (⟨"MixStage$Cue", "shift", "(II)V"⟩, 19), (⟨"MixStage$Cue", "hasTime", "()Z"⟩, 19), (⟨"MixStage$Picture", "tellLast", "()V"⟩, 5), (⟨"MixStage$Picture", "resize", "(I)Z"⟩, 5), (⟨"MixStage$Picture", "begin", "()I"⟩, 5), (⟨"MixStage$Picture", "sizeOf", "(I)I"⟩, 5), (⟨"MixStage$Picture", "extend", "(II)I"⟩, 5), (⟨"MixStage$Picture", "has", "(I)Z"⟩, 5), (⟨"MixStage$Picture", "cameFrom", "(III)I"⟩, 5), (⟨"MixStage$Bank", "add", "(IIIII)I"⟩, 8)]
theorem lw_r4 : ∀ q ∈ lw_privs_4, lw_okq q := List.forall_mem_cons.mpr ⟨lw_p48, List.forall_mem_cons.mpr ⟨lw_p49, List.forall_mem_cons.mpr ⟨lw_p50, List.forall_mem_cons.mpr ⟨lw_p51, List.forall_mem_cons.mpr ⟨lw_p52, List.forall_mem_cons.mpr ⟨lw_p53, List.forall_mem_cons.mpr ⟨lw_p54, List.forall_mem_cons.mpr ⟨lw_p55, List.forall_mem_cons.mpr ⟨lw_p56, List.forall_mem_cons.mpr ⟨lw_p57, List.forall_mem_cons.mpr ⟨lw_p58, List.forall_mem_cons.mpr ⟨lw_p59, List.forall_mem_cons.mpr ⟨lw_p60, List.forall_mem_cons.mpr ⟨lw_p61, List.forall_mem_cons.mpr ⟨lw_p62, List.forall_mem_cons.mpr ⟨lw_p63, fun _ h => absurd h List.not_mem_nil⟩⟩⟩⟩⟩⟩⟩⟩⟩⟩⟩⟩⟩⟩⟩⟩
theorem lw_p64 : lw_okq (⟨"MixStage$Bank", "nextStamp", "()I"⟩, 8) := ⟨⟨by decide +kernel, by decide +kernel⟩, List.mem_of_getElem? (i := 103) (by decide +kernel), List.mem_of_getElem? (i := 965) (by decide +kernel), List.mem_of_getElem? (i := 966) (by decide +kernel)⟩
theorem lw_p65 : lw_okq (⟨"MixStage$Bank", "get", "(I)LMixStage$Sound;"⟩, 8) := ⟨⟨by decide +kernel, by decide +kernel⟩, List.mem_of_getElem? (i := 103) (by decide +kernel), List.mem_of_getElem? (i := 973) (by decide +kernel), List.mem_of_getElem? (i := 974) (by decide +kernel)⟩
theorem lw_p66 : lw_okq (⟨"MixStage$Bank", "getKind", "(II)LMixStage$Sound;"⟩, 8) := ⟨⟨by decide +kernel, by decide +kernel⟩, List.mem_of_getElem? (i := 103) (by decide +kernel), List.mem_of_getElem? (i := 981) (by decide +kernel), List.mem_of_getElem? (i := 982) (by decide +kernel)⟩
theorem lw_p67 : lw_okq (⟨"MixStage$Sound", "canWave", "(IIII)Z"⟩, 13) := ⟨⟨by decide +kernel, by decide +kernel⟩, List.mem_of_getElem? (i := 890) (by decide +kernel), List.mem_of_getElem? (i := 994) (by decide +kernel), List.mem_of_getElem? (i := 995) (by decide +kernel)⟩
theorem lw_p68 : lw_okq (⟨"MixStage$Bank", "setMark", "(II)V"⟩, 8) := ⟨⟨by decide +kernel, by decide +kernel⟩, List.mem_of_getElem? (i := 103) (by decide +kernel), List.mem_of_getElem? (i := 1017) (by decide +kernel), List.mem_of_getElem? (i := 1018) (by decide +kernel)⟩
theorem lw_p69 : lw_okq (⟨"MixStage$Bank", "setHiss", "(II)V"⟩, 8) := ⟨⟨by decide +kernel, by decide +kernel⟩, List.mem_of_getElem? (i := 103) (by decide +kernel), List.mem_of_getElem? (i := 1026) (by decide +kernel), List.mem_of_getElem? (i := 1027) (by decide +kernel)⟩
theorem lw_p70 : lw_okq (⟨"MixStage", "sheetAt", "(I)LMixStage$Sheet;"⟩, 12) := ⟨⟨by decide +kernel, by decide +kernel⟩, List.mem_of_getElem? (i := 22) (by decide +kernel), List.mem_of_getElem? (i := 1034) (by decide +kernel), List.mem_of_getElem? (i := 1035) (by decide +kernel)⟩
theorem lw_p71 : lw_okq (⟨"MixStage", "reaches", "(LMixStage$Sheet;I)Z"⟩, 12) := ⟨⟨by decide +kernel, by decide +kernel⟩, List.mem_of_getElem? (i := 22) (by decide +kernel), List.mem_of_getElem? (i := 1038) (by decide +kernel), List.mem_of_getElem? (i := 1039) (by decide +kernel)⟩
theorem lw_p72 : lw_okq (⟨"MixStage$Bank", "mayLay", "(LMixStage$Sheet;I)Z"⟩, 8) := ⟨⟨by decide +kernel, by decide +kernel⟩, List.mem_of_getElem? (i := 103) (by decide +kernel), List.mem_of_getElem? (i := 1042) (by decide +kernel), List.mem_of_getElem? (i := 1043) (by decide +kernel)⟩
theorem lw_p73 : lw_okq (⟨"MixStage$Bank", "findLeaning", "()V"⟩, 8) := ⟨⟨by decide +kernel, by decide +kernel⟩, List.mem_of_getElem? (i := 103) (by decide +kernel), List.mem_of_getElem? (i := 1046) (by decide +kernel), List.mem_of_getElem? (i := 1047) (by decide +kernel)⟩
theorem lw_p74 : lw_okq (⟨"MixStage$Bank", "leansAtOnce", "(LMixStage$Sound;)I"⟩, 8) := ⟨⟨by decide +kernel, by decide +kernel⟩, List.mem_of_getElem? (i := 103) (by decide +kernel), List.mem_of_getElem? (i := 1056) (by decide +kernel), List.mem_of_getElem? (i := 1057) (by decide +kernel)⟩
theorem lw_p75 : lw_okq (⟨"MixStage", "remake", "(LMixStage$Sound;)V"⟩, 12) := ⟨⟨by decide +kernel, by decide +kernel⟩, List.mem_of_getElem? (i := 22) (by decide +kernel), List.mem_of_getElem? (i := 1064) (by decide +kernel), List.mem_of_getElem? (i := 1065) (by decide +kernel)⟩
theorem lw_p76 : lw_okq (⟨"MixStage$Bank", "generationBy", "(LMixStage$Sheet;)I"⟩, 8) := ⟨⟨by decide +kernel, by decide +kernel⟩, List.mem_of_getElem? (i := 103) (by decide +kernel), List.mem_of_getElem? (i := 1068) (by decide +kernel), List.mem_of_getElem? (i := 1069) (by decide +kernel)⟩
theorem lw_p77 : lw_okq (⟨"MixStage$Mixer", "mixInto", "([ILMixStage$Sheet;I)I"⟩, 9) := ⟨⟨by decide +kernel, by decide +kernel⟩, List.mem_of_getElem? (i := 401) (by decide +kernel), List.mem_of_getElem? (i := 1073) (by decide +kernel), List.mem_of_getElem? (i := 1074) (by decide +kernel)⟩
theorem lw_p78 : lw_okq (⟨"MixStage$Mixer", "prepare", "(LMixStage$Sheet;)V"⟩, 9) := ⟨⟨by decide +kernel, by decide +kernel⟩, List.mem_of_getElem? (i := 401) (by decide +kernel), List.mem_of_getElem? (i := 1077) (by decide +kernel), List.mem_of_getElem? (i := 1078) (by decide +kernel)⟩
theorem lw_p79 : lw_okq (⟨"MixStage$Sheet", "cueAt", "(I)LMixStage$Cue;"⟩, 5) := ⟨⟨by decide +kernel, by decide +kernel⟩, List.mem_of_getElem? (i := 762) (by decide +kernel), List.mem_of_getElem? (i := 1083) (by decide +kernel), List.mem_of_getElem? (i := 1084) (by decide +kernel)⟩
def lw_privs_5 : List (MethodName × Nat) := [(⟨"MixStage$Bank", "nextStamp", "()I"⟩, 8), (⟨"MixStage$Bank", "get", "(I)LMixStage$Sound;"⟩, 8), (⟨"MixStage$Bank", "getKind", "(II)LMixStage$Sound;"⟩, 8), (⟨"MixStage$Sound", "canWave", "(IIII)Z"⟩, 13), (⟨"MixStage$Bank", "setMark", "(II)V"⟩, 8), (⟨"MixStage$Bank", "setHiss", "(II)V"⟩, 8), (⟨"MixStage", "sheetAt", "(I)LMixStage$Sheet;"⟩, 12), (⟨"MixStage", "reaches", "(LMixStage$Sheet;I)Z"⟩, 12), (⟨"MixStage$Bank", "mayLay", "(LMixStage$Sheet;I)Z"⟩, 8), (⟨"MixStage$Bank", "findLeaning", "()V"⟩, 8), (⟨"MixStage$Bank", "leansAtOnce", "(LMixStage$Sound;)I"⟩, 8), (⟨"MixStage", "remake", "(LMixStage$Sound;)V"⟩, 12), (⟨"MixStage$Bank", "generationBy", "(LMixStage$Sheet;)I"⟩, 8), (⟨"MixStage$Mixer", "mixInto", "([ILMixStage$Sheet;I)I"⟩, 9), (⟨"MixStage$Mixer", "prepare", "(LMixStage$Sheet;)V"⟩, 9), (⟨"MixStage$Sheet", "cueAt", "(I)LMixStage$Cue;"⟩, 5)]
theorem lw_r5 : ∀ q ∈ lw_privs_5, lw_okq q := List.forall_mem_cons.mpr ⟨lw_p64, List.forall_mem_cons.mpr ⟨lw_p65, List.forall_mem_cons.mpr ⟨lw_p66, List.forall_mem_cons.mpr ⟨lw_p67, List.forall_mem_cons.mpr ⟨lw_p68, List.forall_mem_cons.mpr ⟨lw_p69, List.forall_mem_cons.mpr ⟨lw_p70, List.forall_mem_cons.mpr ⟨lw_p71, List.forall_mem_cons.mpr ⟨lw_p72, List.forall_mem_cons.mpr ⟨lw_p73, List.forall_mem_cons.mpr ⟨lw_p74, List.forall_mem_cons.mpr ⟨lw_p75, List.forall_mem_cons.mpr ⟨lw_p76, List.forall_mem_cons.mpr ⟨lw_p77, List.forall_mem_cons.mpr ⟨lw_p78, List.forall_mem_cons.mpr ⟨lw_p79, fun _ h => absurd h List.not_mem_nil⟩⟩⟩⟩⟩⟩⟩⟩⟩⟩⟩⟩⟩⟩⟩⟩
theorem lw_p80 : lw_okq (⟨"MixStage$Mixer", "spread", "(LMixStage$Cue;II)V"⟩, 9) := ⟨⟨by decide +kernel, by decide +kernel⟩, List.mem_of_getElem? (i := 401) (by decide +kernel), List.mem_of_getElem? (i := 1087) (by decide +kernel), List.mem_of_getElem? (i := 1088) (by decide +kernel)⟩
theorem lw_p81 : lw_okq (⟨"MixStage$View", "aim", "(LMixStage$Bank;I)V"⟩, 3) := ⟨⟨by decide +kernel, by decide +kernel⟩, List.mem_of_getElem? (i := 407) (by decide +kernel), List.mem_of_getElem? (i := 1092) (by decide +kernel), List.mem_of_getElem? (i := 1093) (by decide +kernel)⟩
theorem lw_p82 : lw_okq (⟨"MixStage$Bank", "ownLength", "(LMixStage$Sound;)I"⟩, 8) := ⟨⟨by decide +kernel, by decide +kernel⟩, List.mem_of_getElem? (i := 103) (by decide +kernel), List.mem_of_getElem? (i := 1101) (by decide +kernel), List.mem_of_getElem? (i := 1102) (by decide +kernel)⟩
theorem lw_p83 : lw_okq (⟨"MixStage$Bank", "frameNow", "(II)I"⟩, 8) := ⟨⟨by decide +kernel, by decide +kernel⟩, List.mem_of_getElem? (i := 103) (by decide +kernel), List.mem_of_getElem? (i := 1106) (by decide +kernel), List.mem_of_getElem? (i := 1107) (by decide +kernel)⟩
theorem lw_p84 : lw_okq (⟨"MixStage$View", "sampleAt", "(I)I"⟩, 3) := ⟨⟨by decide +kernel, by decide +kernel⟩, List.mem_of_getElem? (i := 407) (by decide +kernel), List.mem_of_getElem? (i := 1115) (by decide +kernel), List.mem_of_getElem? (i := 1116) (by decide +kernel)⟩
theorem lw_p85 : lw_okq (⟨"MixStage$Mixer", "noteHeard", "(LMixStage$Cue;I)V"⟩, 9) := ⟨⟨by decide +kernel, by decide +kernel⟩, List.mem_of_getElem? (i := 401) (by decide +kernel), List.mem_of_getElem? (i := 1121) (by decide +kernel), List.mem_of_getElem? (i := 1122) (by decide +kernel)⟩
theorem lw_p86 : lw_okq (⟨"MixStage$Mixer", "turnFader", "(LMixStage$Cue;)V"⟩, 9) := ⟨⟨by decide +kernel, by decide +kernel⟩, List.mem_of_getElem? (i := 401) (by decide +kernel), List.mem_of_getElem? (i := 1126) (by decide +kernel), List.mem_of_getElem? (i := 1127) (by decide +kernel)⟩
theorem lw_p87 : lw_okq (⟨"MixStage$Mixer", "blend", "(LMixStage$Sheet;I)V"⟩, 9) := ⟨⟨by decide +kernel, by decide +kernel⟩, List.mem_of_getElem? (i := 401) (by decide +kernel), List.mem_of_getElem? (i := 1131) (by decide +kernel), List.mem_of_getElem? (i := 1132) (by decide +kernel)⟩
theorem lw_p88 : lw_okq (⟨"MixStage$Mixer", "clearStem", "(I)V"⟩, 9) := ⟨⟨by decide +kernel, by decide +kernel⟩, List.mem_of_getElem? (i := 401) (by decide +kernel), List.mem_of_getElem? (i := 1135) (by decide +kernel), List.mem_of_getElem? (i := 1136) (by decide +kernel)⟩
theorem lw_p89 : lw_okq (⟨"MixStage$Mixer", "addLays", "(LMixStage$Sheet;I)V"⟩, 9) := ⟨⟨by decide +kernel, by decide +kernel⟩, List.mem_of_getElem? (i := 401) (by decide +kernel), List.mem_of_getElem? (i := 1140) (by decide +kernel), List.mem_of_getElem? (i := 1141) (by decide +kernel)⟩
theorem lw_p90 : lw_okq (⟨"MixStage$Mixer", "addLay", "(III)V"⟩, 9) := ⟨⟨by decide +kernel, by decide +kernel⟩, List.mem_of_getElem? (i := 401) (by decide +kernel), List.mem_of_getElem? (i := 1144) (by decide +kernel), List.mem_of_getElem? (i := 1145) (by decide +kernel)⟩
theorem lw_p91 : lw_okq (⟨"MixStage$Mixer", "taken", "(II)I"⟩, 9) := ⟨⟨by decide +kernel, by decide +kernel⟩, List.mem_of_getElem? (i := 401) (by decide +kernel), List.mem_of_getElem? (i := 1149) (by decide +kernel), List.mem_of_getElem? (i := 1150) (by decide +kernel)⟩
theorem lw_p92 : lw_okq (⟨"MixStage$Mixer", "turnDown", "(I)V"⟩, 9) := ⟨⟨by decide +kernel, by decide +kernel⟩, List.mem_of_getElem? (i := 401) (by decide +kernel), List.mem_of_getElem? (i := 1156) (by decide +kernel), List.mem_of_getElem? (i := 1157) (by decide +kernel)⟩
theorem lw_p93 : lw_okq (⟨"MixStage$Mixer", "dip", "(LMixStage$Cue;)V"⟩, 9) := ⟨⟨by decide +kernel, by decide +kernel⟩, List.mem_of_getElem? (i := 401) (by decide +kernel), List.mem_of_getElem? (i := 1161) (by decide +kernel), List.mem_of_getElem? (i := 1162) (by decide +kernel)⟩
theorem lw_p94 : lw_okq (⟨"MixStage$Mixer", "tap", "(LMixStage$Cue;)V"⟩, 9) := ⟨⟨by decide +kernel, by decide +kernel⟩, List.mem_of_getElem? (i := 401) (by decide +kernel), List.mem_of_getElem? (i := 1165) (by decide +kernel), List.mem_of_getElem? (i := 1166) (by decide +kernel)⟩
theorem lw_p95 : lw_okq (⟨"MixStage$Bank", "staleMask", "()I"⟩, 8) := ⟨⟨by decide +kernel, by decide +kernel⟩, List.mem_of_getElem? (i := 103) (by decide +kernel), List.mem_of_getElem? (i := 1180) (by decide +kernel), List.mem_of_getElem? (i := 1181) (by decide +kernel)⟩
def lw_privs_6 : List (MethodName × Nat) := [(⟨"MixStage$Mixer", "spread", "(LMixStage$Cue;II)V"⟩, 9), (⟨"MixStage$View", "aim", "(LMixStage$Bank;I)V"⟩, 3), (⟨"MixStage$Bank", "ownLength", "(LMixStage$Sound;)I"⟩, 8), (⟨"MixStage$Bank", "frameNow", "(II)I"⟩, 8), (⟨"MixStage$View", "sampleAt", "(I)I"⟩, 3), (⟨"MixStage$Mixer", "noteHeard", "(LMixStage$Cue;I)V"⟩, 9), (⟨"MixStage$Mixer", "turnFader", "(LMixStage$Cue;)V"⟩, 9), (⟨"MixStage$Mixer", "blend", "(LMixStage$Sheet;I)V"⟩, 9), (⟨"MixStage$Mixer", "clearStem", "(I)V"⟩, 9), (⟨"MixStage$Mixer", "addLays", "(LMixStage$Sheet;I)V"⟩, 9), (⟨"MixStage$Mixer", "addLay", "(III)V"⟩, 9), (⟨"MixStage$Mixer", "taken", "(II)I"⟩, 9), (⟨"MixStage$Mixer", "turnDown", "(I)V"⟩, 9), (⟨"MixStage$Mixer", "dip", "(LMixStage$Cue;)V"⟩, 9), (⟨"MixStage$Mixer", "tap", "(LMixStage$Cue;)V"⟩, 9), (⟨"MixStage$Bank", "staleMask", "()I"⟩, 8)]
theorem lw_r6 : ∀ q ∈ lw_privs_6, lw_okq q := List.forall_mem_cons.mpr ⟨lw_p80, List.forall_mem_cons.mpr ⟨lw_p81, List.forall_mem_cons.mpr ⟨lw_p82, List.forall_mem_cons.mpr ⟨lw_p83, List.forall_mem_cons.mpr ⟨lw_p84, List.forall_mem_cons.mpr ⟨lw_p85, List.forall_mem_cons.mpr ⟨lw_p86, List.forall_mem_cons.mpr ⟨lw_p87, List.forall_mem_cons.mpr ⟨lw_p88, List.forall_mem_cons.mpr ⟨lw_p89, List.forall_mem_cons.mpr ⟨lw_p90, List.forall_mem_cons.mpr ⟨lw_p91, List.forall_mem_cons.mpr ⟨lw_p92, List.forall_mem_cons.mpr ⟨lw_p93, List.forall_mem_cons.mpr ⟨lw_p94, List.forall_mem_cons.mpr ⟨lw_p95, fun _ h => absurd h List.not_mem_nil⟩⟩⟩⟩⟩⟩⟩⟩⟩⟩⟩⟩⟩⟩⟩⟩
theorem lw_p96 : lw_okq (⟨"MixStage$Bank", "isNewlyStale", "(II)Z"⟩, 8) := ⟨⟨by decide +kernel, by decide +kernel⟩, List.mem_of_getElem? (i := 103) (by decide +kernel), List.mem_of_getElem? (i := 1184) (by decide +kernel), List.mem_of_getElem? (i := 1185) (by decide +kernel)⟩
theorem lw_p97 : lw_okq (⟨"MixStage$Bank", "isBehind", "(LMixStage$Sound;LMixStage$Sheet;I)Z"⟩, 8) := ⟨⟨by decide +kernel, by decide +kernel⟩, List.mem_of_getElem? (i := 103) (by decide +kernel), List.mem_of_getElem? (i := 1188) (by decide +kernel), List.mem_of_getElem? (i := 1189) (by decide +kernel)⟩
theorem lw_p98 : lw_okq (⟨"MixStage$Bank", "firstFree", "(I)I"⟩, 8) := ⟨⟨by decide +kernel, by decide +kernel⟩, List.mem_of_getElem? (i := 103) (by decide +kernel), List.mem_of_getElem? (i := 1192) (by decide +kernel), List.mem_of_getElem? (i := 1193) (by decide +kernel)⟩
theorem lw_p99 : lw_okq (⟨"MixStage$Bank", "hissOf", "(I)I"⟩, 8) := ⟨⟨by decide +kernel, by decide +kernel⟩, List.mem_of_getElem? (i := 103) (by decide +kernel), List.mem_of_getElem? (i := 1210) (by decide +kernel), List.mem_of_getElem? (i := 1211) (by decide +kernel)⟩
theorem lw_p100 : lw_okq (⟨"MixStage$Bank", "ownHiss", "(LMixStage$Sound;)I"⟩, 8) := ⟨⟨by decide +kernel, by decide +kernel⟩, List.mem_of_getElem? (i := 103) (by decide +kernel), List.mem_of_getElem? (i := 1214) (by decide +kernel), List.mem_of_getElem? (i := 1215) (by decide +kernel)⟩
theorem lw_p101 : lw_okq (⟨"MixStage$Bank", "leansOf", "(I)I"⟩, 8) := ⟨⟨by decide +kernel, by decide +kernel⟩, List.mem_of_getElem? (i := 103) (by decide +kernel), List.mem_of_getElem? (i := 1223) (by decide +kernel), List.mem_of_getElem? (i := 1224) (by decide +kernel)⟩
theorem lw_p102 : lw_okq (⟨"MixStage$Tracer", "fateOf", "(ILMixStage$Cue;I)I"⟩, 8) := ⟨⟨by decide +kernel, by decide +kernel⟩, List.mem_of_getElem? (i := 453) (by decide +kernel), List.mem_of_getElem? (i := 1245) (by decide +kernel), List.mem_of_getElem? (i := 1246) (by decide +kernel)⟩
theorem lw_p103 : lw_okq (⟨"MixStage$Tracer", "seekHeard", "(ILMixStage$Cue;)V"⟩, 8) := ⟨⟨by decide +kernel, by decide +kernel⟩, List.mem_of_getElem? (i := 453) (by decide +kernel), List.mem_of_getElem? (i := 1249) (by decide +kernel), List.mem_of_getElem? (i := 1250) (by decide +kernel)⟩
theorem lw_p104 : lw_okq (⟨"MixStage$Mixer", "isHeard", "(II)Z"⟩, 9) := ⟨⟨by decide +kernel, by decide +kernel⟩, List.mem_of_getElem? (i := 401) (by decide +kernel), List.mem_of_getElem? (i := 1256) (by decide +kernel), List.mem_of_getElem? (i := 1257) (by decide +kernel)⟩
theorem lw_p105 : lw_okq (⟨"MixStage$Tracer", "isSought", "(III)Z"⟩, 8) := ⟨⟨by decide +kernel, by decide +kernel⟩, List.mem_of_getElem? (i := 453) (by decide +kernel), List.mem_of_getElem? (i := 1261) (by decide +kernel), List.mem_of_getElem? (i := 1262) (by decide +kernel)⟩
theorem lw_p106 : lw_okq (⟨"MixStage$Tracer", "nextSought", "(I)I"⟩, 8) := ⟨⟨by decide +kernel, by decide +kernel⟩, List.mem_of_getElem? (i := 453) (by decide +kernel), List.mem_of_getElem? (i := 1267) (by decide +kernel), List.mem_of_getElem? (i := 1268) (by decide +kernel)⟩
theorem lw_p107 : lw_okq (⟨"MixStage$Tracer", "countSought", "()I"⟩, 8) := ⟨⟨by decide +kernel, by decide +kernel⟩, List.mem_of_getElem? (i := 453) (by decide +kernel), List.mem_of_getElem? (i := 1271) (by decide +kernel), List.mem_of_getElem? (i := 1272) (by decide +kernel)⟩
theorem lw_p108 : lw_okq (⟨"MixStage$Tracer", "firstFrameOf", "(ILMixStage$Cue;I)I"⟩, 8) := ⟨⟨by decide +kernel, by decide +kernel⟩, List.mem_of_getElem? (i := 453) (by decide +kernel), List.mem_of_getElem? (i := 1279) (by decide +kernel), List.mem_of_getElem? (i := 1280) (by decide +kernel)⟩
theorem lw_p109 : lw_okq (⟨"MixStage$Tracer", "quarrelOf", "(LMixStage$Sheet;I)I"⟩, 8) := ⟨⟨by decide +kernel, by decide +kernel⟩, List.mem_of_getElem? (i := 453) (by decide +kernel), List.mem_of_getElem? (i := 1287) (by decide +kernel), List.mem_of_getElem? (i := 1288) (by decide +kernel)⟩
theorem lw_p110 : lw_okq (⟨"MixStage$Tracer", "doQuarrel", "(LMixStage$Cue;LMixStage$Cue;)Z"⟩, 8) := ⟨⟨by decide +kernel, by decide +kernel⟩, List.mem_of_getElem? (i := 453) (by decide +kernel), List.mem_of_getElem? (i := 1292) (by decide +kernel), List.mem_of_getElem? (i := 1293) (by decide +kernel)⟩
theorem lw_p111 : lw_okq (⟨"MixStage$Mixer", "loudOfSound", "(II)I"⟩, 9) := ⟨⟨by decide +kernel, by decide +kernel⟩, List.mem_of_getElem? (i := 401) (by decide +kernel), List.mem_of_getElem? (i := 1301) (by decide +kernel), List.mem_of_getElem? (i := 1302) (by decide +kernel)⟩
def lw_privs_7 : List (MethodName × Nat) := [(⟨"MixStage$Bank", "isNewlyStale", "(II)Z"⟩, 8), (⟨"MixStage$Bank", "isBehind", "(LMixStage$Sound;LMixStage$Sheet;I)Z"⟩, 8), (⟨"MixStage$Bank", "firstFree", "(I)I"⟩, 8), (⟨"MixStage$Bank", "hissOf", "(I)I"⟩, 8), (⟨"MixStage$Bank", "ownHiss", "(LMixStage$Sound;)I"⟩, 8), (⟨"MixStage$Bank", "leansOf", "(I)I"⟩, 8), (⟨"MixStage$Tracer", "fateOf", "(ILMixStage$Cue;I)I"⟩, 8), (⟨"MixStage$Tracer", "seekHeard", "(ILMixStage$Cue;)V"⟩, 8), (⟨"MixStage$Mixer", "isHeard", "(II)Z"⟩, 9), (⟨"MixStage$Tracer", "isSought", "(III)Z"⟩, 8), (⟨"MixStage$Tracer", "nextSought", "(I)I"⟩, 8), (⟨"MixStage$Tracer", "countSought", "()I"⟩, 8), (⟨"MixStage$Tracer", "firstFrameOf", "(ILMixStage$Cue;I)I"⟩, 8), (⟨"MixStage$Tracer", "quarrelOf", "(LMixStage$Sheet;I)I"⟩, 8), (⟨"MixStage$Tracer", "doQuarrel", "(LMixStage$Cue;LMixStage$Cue;)Z"⟩, 8), (⟨"MixStage$Mixer", "loudOfSound", "(II)I"⟩, 9)]
theorem lw_r7 : ∀ q ∈ lw_privs_7, lw_okq q := List.forall_mem_cons.mpr ⟨lw_p96, List.forall_mem_cons.mpr ⟨lw_p97, List.forall_mem_cons.mpr ⟨lw_p98, List.forall_mem_cons.mpr ⟨lw_p99, List.forall_mem_cons.mpr ⟨lw_p100, List.forall_mem_cons.mpr ⟨lw_p101, List.forall_mem_cons.mpr ⟨lw_p102, List.forall_mem_cons.mpr ⟨lw_p103, List.forall_mem_cons.mpr ⟨lw_p104, List.forall_mem_cons.mpr ⟨lw_p105, List.forall_mem_cons.mpr ⟨lw_p106, List.forall_mem_cons.mpr ⟨lw_p107, List.forall_mem_cons.mpr ⟨lw_p108, List.forall_mem_cons.mpr ⟨lw_p109, List.forall_mem_cons.mpr ⟨lw_p110, List.forall_mem_cons.mpr ⟨lw_p111, fun _ h => absurd h List.not_mem_nil⟩⟩⟩⟩⟩⟩⟩⟩⟩⟩⟩⟩⟩⟩⟩⟩
theorem lw_p112 : lw_okq (⟨"MixStage$Mixer", "loudest", "(I)I"⟩, 9) := ⟨⟨by decide +kernel, by decide +kernel⟩, List.mem_of_getElem? (i := 401) (by decide +kernel), List.mem_of_getElem? (i := 1306) (by decide +kernel), List.mem_of_getElem? (i := 1307) (by decide +kernel)⟩
theorem lw_p113 : lw_okq (⟨"MixStage$Rules", "firstLoud", "()I"⟩, 12) := ⟨⟨by decide +kernel, by decide +kernel⟩, List.mem_of_getElem? (i := 32) (by decide +kernel), List.mem_of_getElem? (i := 1317) (by decide +kernel), List.mem_of_getElem? (i := 1318) (by decide +kernel)⟩
theorem lw_p114 : lw_okq (⟨"MixStage$Rules", "widthOf", "(I)I"⟩, 12) := ⟨⟨by decide +kernel, by decide +kernel⟩, List.mem_of_getElem? (i := 32) (by decide +kernel), List.mem_of_getElem? (i := 1322) (by decide +kernel), List.mem_of_getElem? (i := 1323) (by decide +kernel)⟩
theorem lw_p115 : lw_okq (⟨"MixStage$Rules", "hundredsOf", "(I)I"⟩, 12) := ⟨⟨by decide +kernel, by decide +kernel⟩, List.mem_of_getElem? (i := 32) (by decide +kernel), List.mem_of_getElem? (i := 1326) (by decide +kernel), List.mem_of_getElem? (i := 1327) (by decide +kernel)⟩
theorem lw_p116 : lw_okq (⟨"MixStage$Mixer", "fewestHalved", "(LMixStage$Sheet;II)I"⟩, 9) := ⟨⟨by decide +kernel, by decide +kernel⟩, List.mem_of_getElem? (i := 401) (by decide +kernel), List.mem_of_getElem? (i := 1330) (by decide +kernel), List.mem_of_getElem? (i := 1331) (by decide +kernel)⟩
theorem lw_p117 : lw_okq (⟨"MixStage$Mixer", "holds", "(LMixStage$Sheet;III)Z"⟩, 9) := ⟨⟨by decide +kernel, by decide +kernel⟩, List.mem_of_getElem? (i := 401) (by decide +kernel), List.mem_of_getElem? (i := 1346) (by decide +kernel), List.mem_of_getElem? (i := 1347) (by decide +kernel)⟩
theorem lw_p118 : lw_okq (⟨"MixStage$Tracer", "fitOf", "(LMixStage$Sound;LMixStage$Sound;II)I"⟩, 8) := ⟨⟨by decide +kernel, by decide +kernel⟩, List.mem_of_getElem? (i := 453) (by decide +kernel), List.mem_of_getElem? (i := 1360) (by decide +kernel), List.mem_of_getElem? (i := 1361) (by decide +kernel)⟩
theorem lw_p119 : lw_okq (⟨"MixStage$Tracer", "tryFit", "(LMixStage$Sound;LMixStage$Sound;II)V"⟩, 8) := ⟨⟨by decide +kernel, by decide +kernel⟩, List.mem_of_getElem? (i := 453) (by decide +kernel), List.mem_of_getElem? (i := 1364) (by decide +kernel), List.mem_of_getElem? (i := 1365) (by decide +kernel)⟩
theorem lw_p120 : lw_okq (⟨"MixStage$Tracer", "tryStretch", "(LMixStage$Sound;LMixStage$Sound;III)V"⟩, 8) := ⟨⟨by decide +kernel, by decide +kernel⟩, List.mem_of_getElem? (i := 453) (by decide +kernel), List.mem_of_getElem? (i := 1368) (by decide +kernel), List.mem_of_getElem? (i := 1369) (by decide +kernel)⟩
theorem lw_p121 : lw_okq (⟨"MixStage$Tracer", "framesOfMusic", "(LMixStage$Sheet;II)I"⟩, 8) := ⟨⟨by decide +kernel, by decide +kernel⟩, List.mem_of_getElem? (i := 453) (by decide +kernel), List.mem_of_getElem? (i := 1380) (by decide +kernel), List.mem_of_getElem? (i := 1381) (by decide +kernel)⟩
theorem lw_p122 : lw_okq (⟨"MixStage$Tracer", "isLayOfMusic", "(LMixStage$Cue;I)Z"⟩, 8) := ⟨⟨by decide +kernel, by decide +kernel⟩, List.mem_of_getElem? (i := 453) (by decide +kernel), List.mem_of_getElem? (i := 1384) (by decide +kernel), List.mem_of_getElem? (i := 1385) (by decide +kernel)⟩
theorem lw_p123 : lw_okq (⟨"MixStage$Tracer", "isOfMusic", "(II)Z"⟩, 8) := ⟨⟨by decide +kernel, by decide +kernel⟩, List.mem_of_getElem? (i := 453) (by decide +kernel), List.mem_of_getElem? (i := 1388) (by decide +kernel), List.mem_of_getElem? (i := 1389) (by decide +kernel)⟩
theorem lw_p124 : lw_okq (⟨"MixStage$Tracer", "seekGiven", "(ILMixStage$Cue;)V"⟩, 8) := ⟨⟨by decide +kernel, by decide +kernel⟩, List.mem_of_getElem? (i := 453) (by decide +kernel), List.mem_of_getElem? (i := 1393) (by decide +kernel), List.mem_of_getElem? (i := 1394) (by decide +kernel)⟩
theorem lw_p125 : lw_okq (⟨"MixStage$Rules", "set", "(II)V"⟩, 12) := ⟨⟨by decide +kernel, by decide +kernel⟩, List.mem_of_getElem? (i := 32) (by decide +kernel), List.mem_of_getElem? (i := 1403) (by decide +kernel), List.mem_of_getElem? (i := 1404) (by decide +kernel)⟩
theorem lw_p126 : lw_okq (⟨"MixStage$Tracer", "laysOfMusic", "(LMixStage$Sheet;I)I"⟩, 8) := ⟨⟨by decide +kernel, by decide +kernel⟩, List.mem_of_getElem? (i := 453) (by decide +kernel), List.mem_of_getElem? (i := 1407) (by decide +kernel), List.mem_of_getElem? (i := 1408) (by decide +kernel)⟩
theorem lw_p127 : lw_okq (⟨"MixStage$Rules", "firstRight", "()I"⟩, 12) := ⟨⟨by decide +kernel, by decide +kernel⟩, List.mem_of_getElem? (i := 32) (by decide +kernel), List.mem_of_getElem? (i := 1412) (by decide +kernel), List.mem_of_getElem? (i := 1413) (by decide +kernel)⟩
def lw_privs_8 : List (MethodName × Nat) := [(⟨"MixStage$Mixer", "loudest", "(I)I"⟩, 9), (⟨"MixStage$Rules", "firstLoud", "()I"⟩, 12), (⟨"MixStage$Rules", "widthOf", "(I)I"⟩, 12), (⟨"MixStage$Rules", "hundredsOf", "(I)I"⟩, 12), (⟨"MixStage$Mixer", "fewestHalved", "(LMixStage$Sheet;II)I"⟩, 9), (⟨"MixStage$Mixer", "holds", "(LMixStage$Sheet;III)Z"⟩, 9), (⟨"MixStage$Tracer", "fitOf", "(LMixStage$Sound;LMixStage$Sound;II)I"⟩, 8), (⟨"MixStage$Tracer", "tryFit", "(LMixStage$Sound;LMixStage$Sound;II)V"⟩, 8), (⟨"MixStage$Tracer", "tryStretch", "(LMixStage$Sound;LMixStage$Sound;III)V"⟩, 8), (⟨"MixStage$Tracer", "framesOfMusic", "(LMixStage$Sheet;II)I"⟩, 8), (⟨"MixStage$Tracer", "isLayOfMusic", "(LMixStage$Cue;I)Z"⟩, 8), (⟨"MixStage$Tracer", "isOfMusic", "(II)Z"⟩, 8), (⟨"MixStage$Tracer", "seekGiven", "(ILMixStage$Cue;)V"⟩, 8), (⟨"MixStage$Rules", "set", "(II)V"⟩, 12), (⟨"MixStage$Tracer", "laysOfMusic", "(LMixStage$Sheet;I)I"⟩, 8), (⟨"MixStage$Rules", "firstRight", "()I"⟩, 12)]
theorem lw_r8 : ∀ q ∈ lw_privs_8, lw_okq q := List.forall_mem_cons.mpr ⟨lw_p112, List.forall_mem_cons.mpr ⟨lw_p113, List.forall_mem_cons.mpr ⟨lw_p114, List.forall_mem_cons.mpr ⟨lw_p115, List.forall_mem_cons.mpr ⟨lw_p116, List.forall_mem_cons.mpr ⟨lw_p117, List.forall_mem_cons.mpr ⟨lw_p118, List.forall_mem_cons.mpr ⟨lw_p119, List.forall_mem_cons.mpr ⟨lw_p120, List.forall_mem_cons.mpr ⟨lw_p121, List.forall_mem_cons.mpr ⟨lw_p122, List.forall_mem_cons.mpr ⟨lw_p123, List.forall_mem_cons.mpr ⟨lw_p124, List.forall_mem_cons.mpr ⟨lw_p125, List.forall_mem_cons.mpr ⟨lw_p126, List.forall_mem_cons.mpr ⟨lw_p127, fun _ h => absurd h List.not_mem_nil⟩⟩⟩⟩⟩⟩⟩⟩⟩⟩⟩⟩⟩⟩⟩⟩
theorem lw_p128 : lw_okq (⟨"MixStage$Rules", "work", "(II)I"⟩, 12) := ⟨⟨by decide +kernel, by decide +kernel⟩, List.mem_of_getElem? (i := 32) (by decide +kernel), List.mem_of_getElem? (i := 1416) (by decide +kernel), List.mem_of_getElem? (i := 1417) (by decide +kernel)⟩
theorem lw_p129 : lw_okq (⟨"MixStage$Rules", "step", "(I)V"⟩, 12) := ⟨⟨by decide +kernel, by decide +kernel⟩, List.mem_of_getElem? (i := 32) (by decide +kernel), List.mem_of_getElem? (i := 1420) (by decide +kernel), List.mem_of_getElem? (i := 1421) (by decide +kernel)⟩
theorem lw_p130 : lw_okq (⟨"MixStage$Rules", "push", "(I)V"⟩, 12) := ⟨⟨by decide +kernel, by decide +kernel⟩, List.mem_of_getElem? (i := 32) (by decide +kernel), List.mem_of_getElem? (i := 1424) (by decide +kernel), List.mem_of_getElem? (i := 1425) (by decide +kernel)⟩
theorem lw_p131 : lw_okq (⟨"MixStage$Rules", "pop", "()I"⟩, 12) := ⟨⟨by decide +kernel, by decide +kernel⟩, List.mem_of_getElem? (i := 32) (by decide +kernel), List.mem_of_getElem? (i := 1428) (by decide +kernel), List.mem_of_getElem? (i := 1429) (by decide +kernel)⟩
theorem lw_p132 : lw_okq (⟨"MixStage$Rules", "join", "(III)I"⟩, 12) := ⟨⟨by decide +kernel, by decide +kernel⟩, List.mem_of_getElem? (i := 32) (by decide +kernel), List.mem_of_getElem? (i := 1433) (by decide +kernel), List.mem_of_getElem? (i := 1434) (by decide +kernel)⟩
theorem lw_p133 : lw_okq (⟨"MixStage$Rules", "divide", "(II)I"⟩, 12) := ⟨⟨by decide +kernel, by decide +kernel⟩, List.mem_of_getElem? (i := 32) (by decide +kernel), List.mem_of_getElem? (i := 1437) (by decide +kernel), List.mem_of_getElem? (i := 1438) (by decide +kernel)⟩
theorem lw_p134 : lw_okq (⟨"MixStageModel", "put", "(I)V"⟩, 104) := ⟨⟨by decide +kernel, by decide +kernel⟩, List.mem_of_getElem? (i := 1447) (by decide +kernel), List.mem_of_getElem? (i := 1777) (by decide +kernel), List.mem_of_getElem? (i := 1778) (by decide +kernel)⟩
theorem lw_p135 : lw_okq (⟨"MixStageModel", "cut", "()V"⟩, 104) := ⟨⟨by decide +kernel, by decide +kernel⟩, List.mem_of_getElem? (i := 1447) (by decide +kernel), List.mem_of_getElem? (i := 1789) (by decide +kernel), List.mem_of_getElem? (i := 1790) (by decide +kernel)⟩
theorem lw_p136 : lw_okq (⟨"MixStageModel", "at", "(I)I"⟩, 104) := ⟨⟨by decide +kernel, by decide +kernel⟩, List.mem_of_getElem? (i := 1447) (by decide +kernel), List.mem_of_getElem? (i := 1793) (by decide +kernel), List.mem_of_getElem? (i := 1794) (by decide +kernel)⟩
theorem lw_p137 : lw_okq (⟨"MixStageModel", "token", "(IIIJ)V"⟩, 104) := ⟨⟨by decide +kernel, by decide +kernel⟩, List.mem_of_getElem? (i := 1447) (by decide +kernel), List.mem_of_getElem? (i := 1797) (by decide +kernel), List.mem_of_getElem? (i := 1798) (by decide +kernel)⟩
theorem lw_p138 : lw_okq (⟨"MixStageModel", "sign", "(III)I"⟩, 104) := ⟨⟨by decide +kernel, by decide +kernel⟩, List.mem_of_getElem? (i := 1447) (by decide +kernel), List.mem_of_getElem? (i := 1807) (by decide +kernel), List.mem_of_getElem? (i := 1808) (by decide +kernel)⟩
theorem lw_p139 : lw_okq (⟨"MixStageModel", "is", "(I)Z"⟩, 104) := ⟨⟨by decide +kernel, by decide +kernel⟩, List.mem_of_getElem? (i := 1447) (by decide +kernel), List.mem_of_getElem? (i := 1811) (by decide +kernel), List.mem_of_getElem? (i := 1812) (by decide +kernel)⟩
theorem lw_p140 : lw_okq (⟨"MixStageModel", "tellRules", "()V"⟩, 104) := ⟨⟨by decide +kernel, by decide +kernel⟩, List.mem_of_getElem? (i := 1447) (by decide +kernel), List.mem_of_getElem? (i := 1815) (by decide +kernel), List.mem_of_getElem? (i := 1816) (by decide +kernel)⟩
theorem lw_p141 : lw_okq (⟨"MixStageModel", "next", "()V"⟩, 104) := ⟨⟨by decide +kernel, by decide +kernel⟩, List.mem_of_getElem? (i := 1447) (by decide +kernel), List.mem_of_getElem? (i := 1819) (by decide +kernel), List.mem_of_getElem? (i := 1820) (by decide +kernel)⟩
theorem lw_p142 : lw_okq (⟨"MixStageModel", "fail", "(I)V"⟩, 104) := ⟨⟨by decide +kernel, by decide +kernel⟩, List.mem_of_getElem? (i := 1447) (by decide +kernel), List.mem_of_getElem? (i := 1823) (by decide +kernel), List.mem_of_getElem? (i := 1824) (by decide +kernel)⟩
theorem lw_p143 : lw_okq (⟨"MixStageModel", "tellRule", "()V"⟩, 104) := ⟨⟨by decide +kernel, by decide +kernel⟩, List.mem_of_getElem? (i := 1447) (by decide +kernel), List.mem_of_getElem? (i := 1827) (by decide +kernel), List.mem_of_getElem? (i := 1828) (by decide +kernel)⟩
def lw_privs_9 : List (MethodName × Nat) := [(⟨"MixStage$Rules", "work", "(II)I"⟩, 12), (⟨"MixStage$Rules", "step", "(I)V"⟩, 12), (⟨"MixStage$Rules", "push", "(I)V"⟩, 12), (⟨"MixStage$Rules", "pop", "()I"⟩, 12), (⟨"MixStage$Rules", "join", "(III)I"⟩, 12), (⟨"MixStage$Rules", "divide", "(II)I"⟩, 12), (⟨"MixStageModel", "put", "(I)V"⟩, 104), (⟨"MixStageModel", "cut", "()V"⟩, 104), (⟨"MixStageModel", "at", "(I)I"⟩, 104), (⟨"MixStageModel", "token", "(IIIJ)V"⟩, 104), (⟨"MixStageModel", "sign", "(III)I"⟩, 104), (⟨"MixStageModel", "is", "(I)Z"⟩, 104), (⟨"MixStageModel", "tellRules", "()V"⟩, 104), (⟨"MixStageModel", "next", "()V"⟩, 104), (⟨"MixStageModel", "fail", "(I)V"⟩, 104), (⟨"MixStageModel", "tellRule", "()V"⟩, 104)]
theorem lw_r9 : ∀ q ∈ lw_privs_9, lw_okq q := List.forall_mem_cons.mpr ⟨lw_p128, List.forall_mem_cons.mpr ⟨lw_p129, List.forall_mem_cons.mpr ⟨lw_p130, List.forall_mem_cons.mpr ⟨lw_p131, List.forall_mem_cons.mpr ⟨lw_p132, List.forall_mem_cons.mpr ⟨lw_p133, List.forall_mem_cons.mpr ⟨lw_p134, List.forall_mem_cons.mpr ⟨lw_p135, List.forall_mem_cons.mpr ⟨lw_p136, List.forall_mem_cons.mpr ⟨lw_p137, List.forall_mem_cons.mpr ⟨lw_p138, List.forall_mem_cons.mpr ⟨lw_p139, List.forall_mem_cons.mpr ⟨lw_p140, List.forall_mem_cons.mpr ⟨lw_p141, List.forall_mem_cons.mpr ⟨lw_p142, List.forall_mem_cons.mpr ⟨lw_p143, fun _ h => absurd h List.not_mem_nil⟩⟩⟩⟩⟩⟩⟩⟩⟩⟩⟩⟩⟩⟩⟩⟩
theorem lw_p144 : lw_okq (⟨"MixStageModel", "number", "(II)I"⟩, 104) := ⟨⟨by decide +kernel, by decide +kernel⟩, List.mem_of_getElem? (i := 1447) (by decide +kernel), List.mem_of_getElem? (i := 1831) (by decide +kernel), List.mem_of_getElem? (i := 1832) (by decide +kernel)⟩
theorem lw_p145 : lw_okq (⟨"MixStageModel", "must", "(I)V"⟩, 104) := ⟨⟨by decide +kernel, by decide +kernel⟩, List.mem_of_getElem? (i := 1447) (by decide +kernel), List.mem_of_getElem? (i := 1835) (by decide +kernel), List.mem_of_getElem? (i := 1836) (by decide +kernel)⟩
theorem lw_p146 : lw_okq (⟨"MixStageModel", "wrong", "(II)V"⟩, 104) := ⟨⟨by decide +kernel, by decide +kernel⟩, List.mem_of_getElem? (i := 1447) (by decide +kernel), List.mem_of_getElem? (i := 1839) (by decide +kernel), List.mem_of_getElem? (i := 1840) (by decide +kernel)⟩
theorem lw_p147 : lw_okq (⟨"MixStageModel", "expression", "()V"⟩, 104) := ⟨⟨by decide +kernel, by decide +kernel⟩, List.mem_of_getElem? (i := 1447) (by decide +kernel), List.mem_of_getElem? (i := 1843) (by decide +kernel), List.mem_of_getElem? (i := 1844) (by decide +kernel)⟩
theorem lw_p148 : lw_okq (⟨"MixStageModel", "unit", "()V"⟩, 104) := ⟨⟨by decide +kernel, by decide +kernel⟩, List.mem_of_getElem? (i := 1447) (by decide +kernel), List.mem_of_getElem? (i := 1847) (by decide +kernel), List.mem_of_getElem? (i := 1848) (by decide +kernel)⟩
theorem lw_p149 : lw_okq (⟨"MixStageModel", "emit", "(II)V"⟩, 104) := ⟨⟨by decide +kernel, by decide +kernel⟩, List.mem_of_getElem? (i := 1447) (by decide +kernel), List.mem_of_getElem? (i := 1851) (by decide +kernel), List.mem_of_getElem? (i := 1852) (by decide +kernel)⟩
theorem lw_p150 : lw_okq (⟨"MixStageModel", "comesOut", "(Z)V"⟩, 104) := ⟨⟨by decide +kernel, by decide +kernel⟩, List.mem_of_getElem? (i := 1447) (by decide +kernel), List.mem_of_getElem? (i := 1855) (by decide +kernel), List.mem_of_getElem? (i := 1856) (by decide +kernel)⟩
theorem lw_p151 : lw_okq (⟨"MixStageModel", "literal", "(Z)V"⟩, 104) := ⟨⟨by decide +kernel, by decide +kernel⟩, List.mem_of_getElem? (i := 1447) (by decide +kernel), List.mem_of_getElem? (i := 1859) (by decide +kernel), List.mem_of_getElem? (i := 1860) (by decide +kernel)⟩
theorem lw_p152 : lw_okq (⟨"MixStageModel", "tellSheet", "()V"⟩, 104) := ⟨⟨by decide +kernel, by decide +kernel⟩, List.mem_of_getElem? (i := 1447) (by decide +kernel), List.mem_of_getElem? (i := 1863) (by decide +kernel), List.mem_of_getElem? (i := 1864) (by decide +kernel)⟩
theorem lw_p153 : lw_okq (⟨"MixStageModel", "tellBlock", "()V"⟩, 104) := ⟨⟨by decide +kernel, by decide +kernel⟩, List.mem_of_getElem? (i := 1447) (by decide +kernel), List.mem_of_getElem? (i := 1867) (by decide +kernel), List.mem_of_getElem? (i := 1868) (by decide +kernel)⟩
theorem lw_p154 : lw_okq (⟨"MixStageModel", "tellCues", "()V"⟩, 104) := ⟨⟨by decide +kernel, by decide +kernel⟩, List.mem_of_getElem? (i := 1447) (by decide +kernel), List.mem_of_getElem? (i := 1871) (by decide +kernel), List.mem_of_getElem? (i := 1872) (by decide +kernel)⟩
theorem lw_p155 : lw_okq (⟨"MixStageModel", "tellCue", "()V"⟩, 104) := ⟨⟨by decide +kernel, by decide +kernel⟩, List.mem_of_getElem? (i := 1447) (by decide +kernel), List.mem_of_getElem? (i := 1875) (by decide +kernel), List.mem_of_getElem? (i := 1876) (by decide +kernel)⟩
theorem lw_p156 : lw_okq (⟨"MixStageModel", "tellLay", "(I)V"⟩, 104) := ⟨⟨by decide +kernel, by decide +kernel⟩, List.mem_of_getElem? (i := 1447) (by decide +kernel), List.mem_of_getElem? (i := 1879) (by decide +kernel), List.mem_of_getElem? (i := 1880) (by decide +kernel)⟩
theorem lw_p157 : lw_okq (⟨"MixStageModel", "tellTime", "(IZ)V"⟩, 104) := ⟨⟨by decide +kernel, by decide +kernel⟩, List.mem_of_getElem? (i := 1447) (by decide +kernel), List.mem_of_getElem? (i := 1883) (by decide +kernel), List.mem_of_getElem? (i := 1884) (by decide +kernel)⟩
theorem lw_p158 : lw_okq (⟨"MixStageModel", "tellTaps", "(I)V"⟩, 104) := ⟨⟨by decide +kernel, by decide +kernel⟩, List.mem_of_getElem? (i := 1447) (by decide +kernel), List.mem_of_getElem? (i := 1887) (by decide +kernel), List.mem_of_getElem? (i := 1888) (by decide +kernel)⟩
theorem lw_p159 : lw_okq (⟨"MixStageModel", "mayCut", "(I)Z"⟩, 104) := ⟨⟨by decide +kernel, by decide +kernel⟩, List.mem_of_getElem? (i := 1447) (by decide +kernel), List.mem_of_getElem? (i := 1907) (by decide +kernel), List.mem_of_getElem? (i := 1908) (by decide +kernel)⟩
def lw_privs_10 : List (MethodName × Nat) := [(⟨"MixStageModel", "number", "(II)I"⟩, 104), (⟨"MixStageModel", "must", "(I)V"⟩, 104), (⟨"MixStageModel", "wrong", "(II)V"⟩, 104), (⟨"MixStageModel", "expression", "()V"⟩, 104), (⟨"MixStageModel", "unit", "()V"⟩, 104), (⟨"MixStageModel", "emit", "(II)V"⟩, 104), (⟨"MixStageModel", "comesOut", "(Z)V"⟩, 104), (⟨"MixStageModel", "literal", "(Z)V"⟩, 104), (⟨"MixStageModel", "tellSheet", "()V"⟩, 104), (⟨"MixStageModel", "tellBlock", "()V"⟩, 104), (⟨"MixStageModel", "tellCues", "()V"⟩, 104), (⟨"MixStageModel", "tellCue", "()V"⟩, 104), (⟨"MixStageModel", "tellLay", "(I)V"⟩, 104), (⟨"MixStageModel", "tellTime", "(IZ)V"⟩, 104), (⟨"MixStageModel", "tellTaps", "(I)V"⟩, 104), (⟨"MixStageModel", "mayCut", "(I)Z"⟩, 104)]
theorem lw_r10 : ∀ q ∈ lw_privs_10, lw_okq q := List.forall_mem_cons.mpr ⟨lw_p144, List.forall_mem_cons.mpr ⟨lw_p145, List.forall_mem_cons.mpr ⟨lw_p146, List.forall_mem_cons.mpr ⟨lw_p147, List.forall_mem_cons.mpr ⟨lw_p148, List.forall_mem_cons.mpr ⟨lw_p149, List.forall_mem_cons.mpr ⟨lw_p150, List.forall_mem_cons.mpr ⟨lw_p151, List.forall_mem_cons.mpr ⟨lw_p152, List.forall_mem_cons.mpr ⟨lw_p153, List.forall_mem_cons.mpr ⟨lw_p154, List.forall_mem_cons.mpr ⟨lw_p155, List.forall_mem_cons.mpr ⟨lw_p156, List.forall_mem_cons.mpr ⟨lw_p157, List.forall_mem_cons.mpr ⟨lw_p158, List.forall_mem_cons.mpr ⟨lw_p159, fun _ h => absurd h List.not_mem_nil⟩⟩⟩⟩⟩⟩⟩⟩⟩⟩⟩⟩⟩⟩⟩⟩
theorem lw_p160 : lw_okq (⟨"MixStageModel", "cuts", "(IIZ)I"⟩, 104) := ⟨⟨by decide +kernel, by decide +kernel⟩, List.mem_of_getElem? (i := 1447) (by decide +kernel), List.mem_of_getElem? (i := 1911) (by decide +kernel), List.mem_of_getElem? (i := 1912) (by decide +kernel)⟩
theorem lw_p161 : lw_okq (⟨"MixStageModel", "isEdition", "(I)Z"⟩, 104) := ⟨⟨by decide +kernel, by decide +kernel⟩, List.mem_of_getElem? (i := 1447) (by decide +kernel), List.mem_of_getElem? (i := 1923) (by decide +kernel), List.mem_of_getElem? (i := 1924) (by decide +kernel)⟩
theorem lw_p162 : lw_okq (⟨"MixStageModel", "oldOf", "(III)I"⟩, 104) := ⟨⟨by decide +kernel, by decide +kernel⟩, List.mem_of_getElem? (i := 1447) (by decide +kernel), List.mem_of_getElem? (i := 1931) (by decide +kernel), List.mem_of_getElem? (i := 1932) (by decide +kernel)⟩
theorem lw_p163 : lw_okq (⟨"MixStageModel", "adds", "(IIIII)I"⟩, 104) := ⟨⟨by decide +kernel, by decide +kernel⟩, List.mem_of_getElem? (i := 1447) (by decide +kernel), List.mem_of_getElem? (i := 1942) (by decide +kernel), List.mem_of_getElem? (i := 1943) (by decide +kernel)⟩
theorem lw_p164 : lw_okq (⟨"MixStageModel", "isSound", "(I)Z"⟩, 104) := ⟨⟨by decide +kernel, by decide +kernel⟩, List.mem_of_getElem? (i := 1447) (by decide +kernel), List.mem_of_getElem? (i := 1950) (by decide +kernel), List.mem_of_getElem? (i := 1951) (by decide +kernel)⟩
theorem lw_p165 : lw_okq (⟨"MixStageModel", "isOwn", "(I)Z"⟩, 104) := ⟨⟨by decide +kernel, by decide +kernel⟩, List.mem_of_getElem? (i := 1447) (by decide +kernel), List.mem_of_getElem? (i := 1966) (by decide +kernel), List.mem_of_getElem? (i := 1967) (by decide +kernel)⟩
theorem lw_p166 : lw_okq (⟨"MixStageModel", "told", "(I)V"⟩, 104) := ⟨⟨by decide +kernel, by decide +kernel⟩, List.mem_of_getElem? (i := 1447) (by decide +kernel), List.mem_of_getElem? (i := 1972) (by decide +kernel), List.mem_of_getElem? (i := 1973) (by decide +kernel)⟩
theorem lw_p167 : lw_okq (⟨"MixStageModel", "lengthOf", "(I)I"⟩, 104) := ⟨⟨by decide +kernel, by decide +kernel⟩, List.mem_of_getElem? (i := 1447) (by decide +kernel), List.mem_of_getElem? (i := 1996) (by decide +kernel), List.mem_of_getElem? (i := 1997) (by decide +kernel)⟩
theorem lw_p168 : lw_okq (⟨"MixStageModel", "sampleOf", "(II)I"⟩, 104) := ⟨⟨by decide +kernel, by decide +kernel⟩, List.mem_of_getElem? (i := 1447) (by decide +kernel), List.mem_of_getElem? (i := 2004) (by decide +kernel), List.mem_of_getElem? (i := 2005) (by decide +kernel)⟩
theorem lw_p169 : lw_okq (⟨"MixStageModel", "leansOf", "(I)I"⟩, 104) := ⟨⟨by decide +kernel, by decide +kernel⟩, List.mem_of_getElem? (i := 1447) (by decide +kernel), List.mem_of_getElem? (i := 2012) (by decide +kernel), List.mem_of_getElem? (i := 2013) (by decide +kernel)⟩
theorem lw_p170 : lw_okq (⟨"MixStageModel", "nextOf", "(I)I"⟩, 104) := ⟨⟨by decide +kernel, by decide +kernel⟩, List.mem_of_getElem? (i := 1447) (by decide +kernel), List.mem_of_getElem? (i := 2016) (by decide +kernel), List.mem_of_getElem? (i := 2017) (by decide +kernel)⟩
theorem lw_p171 : lw_okq (⟨"MixStageModel", "lays", "(I)I"⟩, 104) := ⟨⟨by decide +kernel, by decide +kernel⟩, List.mem_of_getElem? (i := 1447) (by decide +kernel), List.mem_of_getElem? (i := 2020) (by decide +kernel), List.mem_of_getElem? (i := 2021) (by decide +kernel)⟩
theorem lw_p172 : lw_okq (⟨"MixStageModel", "unfolds", "(I)V"⟩, 104) := ⟨⟨by decide +kernel, by decide +kernel⟩, List.mem_of_getElem? (i := 1447) (by decide +kernel), List.mem_of_getElem? (i := 2024) (by decide +kernel), List.mem_of_getElem? (i := 2025) (by decide +kernel)⟩
theorem lw_p173 : lw_okq (⟨"MixStageModel", "frameOf", "(III)I"⟩, 104) := ⟨⟨by decide +kernel, by decide +kernel⟩, List.mem_of_getElem? (i := 1447) (by decide +kernel), List.mem_of_getElem? (i := 2028) (by decide +kernel), List.mem_of_getElem? (i := 2029) (by decide +kernel)⟩
theorem lw_p174 : lw_okq (⟨"MixStageModel", "isLater", "(II)Z"⟩, 104) := ⟨⟨by decide +kernel, by decide +kernel⟩, List.mem_of_getElem? (i := 1447) (by decide +kernel), List.mem_of_getElem? (i := 2036) (by decide +kernel), List.mem_of_getElem? (i := 2037) (by decide +kernel)⟩
theorem lw_p175 : lw_okq (⟨"MixStageModel", "isSheet", "(I)Z"⟩, 104) := ⟨⟨by decide +kernel, by decide +kernel⟩, List.mem_of_getElem? (i := 1447) (by decide +kernel), List.mem_of_getElem? (i := 2040) (by decide +kernel), List.mem_of_getElem? (i := 2041) (by decide +kernel)⟩
def lw_privs_11 : List (MethodName × Nat) := [(⟨"MixStageModel", "cuts", "(IIZ)I"⟩, 104), (⟨"MixStageModel", "isEdition", "(I)Z"⟩, 104), (⟨"MixStageModel", "oldOf", "(III)I"⟩, 104), (⟨"MixStageModel", "adds", "(IIIII)I"⟩, 104), (⟨"MixStageModel", "isSound", "(I)Z"⟩, 104), (⟨"MixStageModel", "isOwn", "(I)Z"⟩, 104), (⟨"MixStageModel", "told", "(I)V"⟩, 104), (⟨"MixStageModel", "lengthOf", "(I)I"⟩, 104), (⟨"MixStageModel", "sampleOf", "(II)I"⟩, 104), (⟨"MixStageModel", "leansOf", "(I)I"⟩, 104), (⟨"MixStageModel", "nextOf", "(I)I"⟩, 104), (⟨"MixStageModel", "lays", "(I)I"⟩, 104), (⟨"MixStageModel", "unfolds", "(I)V"⟩, 104), (⟨"MixStageModel", "frameOf", "(III)I"⟩, 104), (⟨"MixStageModel", "isLater", "(II)Z"⟩, 104), (⟨"MixStageModel", "isSheet", "(I)Z"⟩, 104)]
theorem lw_r11 : ∀ q ∈ lw_privs_11, lw_okq q := List.forall_mem_cons.mpr ⟨lw_p160, List.forall_mem_cons.mpr ⟨lw_p161, List.forall_mem_cons.mpr ⟨lw_p162, List.forall_mem_cons.mpr ⟨lw_p163, List.forall_mem_cons.mpr ⟨lw_p164, List.forall_mem_cons.mpr ⟨lw_p165, List.forall_mem_cons.mpr ⟨lw_p166, List.forall_mem_cons.mpr ⟨lw_p167, List.forall_mem_cons.mpr ⟨lw_p168, List.forall_mem_cons.mpr ⟨lw_p169, List.forall_mem_cons.mpr ⟨lw_p170, List.forall_mem_cons.mpr ⟨lw_p171, List.forall_mem_cons.mpr ⟨lw_p172, List.forall_mem_cons.mpr ⟨lw_p173, List.forall_mem_cons.mpr ⟨lw_p174, List.forall_mem_cons.mpr ⟨lw_p175, fun _ h => absurd h List.not_mem_nil⟩⟩⟩⟩⟩⟩⟩⟩⟩⟩⟩⟩⟩⟩⟩⟩
theorem lw_p176 : lw_okq (⟨"MixStageModel", "makes", "(III)I"⟩, 104) := ⟨⟨by decide +kernel, by decide +kernel⟩, List.mem_of_getElem? (i := 1447) (by decide +kernel), List.mem_of_getElem? (i := 2044) (by decide +kernel), List.mem_of_getElem? (i := 2045) (by decide +kernel)⟩
theorem lw_p177 : lw_okq (⟨"MixStageModel", "mixes", "(I)V"⟩, 104) := ⟨⟨by decide +kernel, by decide +kernel⟩, List.mem_of_getElem? (i := 1447) (by decide +kernel), List.mem_of_getElem? (i := 2048) (by decide +kernel), List.mem_of_getElem? (i := 2049) (by decide +kernel)⟩
theorem lw_p178 : lw_okq (⟨"MixStageModel", "isThere", "(II)Z"⟩, 104) := ⟨⟨by decide +kernel, by decide +kernel⟩, List.mem_of_getElem? (i := 1447) (by decide +kernel), List.mem_of_getElem? (i := 2052) (by decide +kernel), List.mem_of_getElem? (i := 2053) (by decide +kernel)⟩
theorem lw_p179 : lw_okq (⟨"MixStageModel", "atOf", "(I)I"⟩, 104) := ⟨⟨by decide +kernel, by decide +kernel⟩, List.mem_of_getElem? (i := 1447) (by decide +kernel), List.mem_of_getElem? (i := 2056) (by decide +kernel), List.mem_of_getElem? (i := 2057) (by decide +kernel)⟩
theorem lw_p180 : lw_okq (⟨"MixStageModel", "fader", "(II)I"⟩, 104) := ⟨⟨by decide +kernel, by decide +kernel⟩, List.mem_of_getElem? (i := 1447) (by decide +kernel), List.mem_of_getElem? (i := 2060) (by decide +kernel), List.mem_of_getElem? (i := 2061) (by decide +kernel)⟩
theorem lw_p181 : lw_okq (⟨"MixStageModel", "toOf", "(I)I"⟩, 104) := ⟨⟨by decide +kernel, by decide +kernel⟩, List.mem_of_getElem? (i := 1447) (by decide +kernel), List.mem_of_getElem? (i := 2064) (by decide +kernel), List.mem_of_getElem? (i := 2065) (by decide +kernel)⟩
theorem lw_p182 : lw_okq (⟨"MixStageModel", "dips", "(I)V"⟩, 104) := ⟨⟨by decide +kernel, by decide +kernel⟩, List.mem_of_getElem? (i := 1447) (by decide +kernel), List.mem_of_getElem? (i := 2069) (by decide +kernel), List.mem_of_getElem? (i := 2070) (by decide +kernel)⟩
theorem lw_p183 : lw_okq (⟨"MixStageModel", "taps", "(I)V"⟩, 104) := ⟨⟨by decide +kernel, by decide +kernel⟩, List.mem_of_getElem? (i := 1447) (by decide +kernel), List.mem_of_getElem? (i := 2073) (by decide +kernel), List.mem_of_getElem? (i := 2074) (by decide +kernel)⟩
theorem lw_p184 : lw_okq (⟨"MixStageModel", "stales", "()V"⟩, 104) := ⟨⟨by decide +kernel, by decide +kernel⟩, List.mem_of_getElem? (i := 1447) (by decide +kernel), List.mem_of_getElem? (i := 2081) (by decide +kernel), List.mem_of_getElem? (i := 2082) (by decide +kernel)⟩
theorem lw_p185 : lw_okq (⟨"MixStageModel", "marksOf", "(I)I"⟩, 104) := ⟨⟨by decide +kernel, by decide +kernel⟩, List.mem_of_getElem? (i := 1447) (by decide +kernel), List.mem_of_getElem? (i := 2085) (by decide +kernel), List.mem_of_getElem? (i := 2086) (by decide +kernel)⟩
theorem lw_p186 : lw_okq (⟨"MixStageModel", "stampOf", "(I)I"⟩, 104) := ⟨⟨by decide +kernel, by decide +kernel⟩, List.mem_of_getElem? (i := 1447) (by decide +kernel), List.mem_of_getElem? (i := 2089) (by decide +kernel), List.mem_of_getElem? (i := 2090) (by decide +kernel)⟩
theorem lw_p187 : lw_okq (⟨"MixStageModel", "leansOnStale", "(I)Z"⟩, 104) := ⟨⟨by decide +kernel, by decide +kernel⟩, List.mem_of_getElem? (i := 1447) (by decide +kernel), List.mem_of_getElem? (i := 2093) (by decide +kernel), List.mem_of_getElem? (i := 2094) (by decide +kernel)⟩
theorem lw_p188 : lw_okq (⟨"MixStageModel", "hiss", "(I)I"⟩, 104) := ⟨⟨by decide +kernel, by decide +kernel⟩, List.mem_of_getElem? (i := 1447) (by decide +kernel), List.mem_of_getElem? (i := 2101) (by decide +kernel), List.mem_of_getElem? (i := 2102) (by decide +kernel)⟩
theorem lw_p189 : lw_okq (⟨"MixStageModel", "isCue", "(II)Z"⟩, 104) := ⟨⟨by decide +kernel, by decide +kernel⟩, List.mem_of_getElem? (i := 1447) (by decide +kernel), List.mem_of_getElem? (i := 2113) (by decide +kernel), List.mem_of_getElem? (i := 2114) (by decide +kernel)⟩
theorem lw_p190 : lw_okq (⟨"MixStageModel", "isLay", "(III)Z"⟩, 104) := ⟨⟨by decide +kernel, by decide +kernel⟩, List.mem_of_getElem? (i := 1447) (by decide +kernel), List.mem_of_getElem? (i := 2121) (by decide +kernel), List.mem_of_getElem? (i := 2122) (by decide +kernel)⟩
theorem lw_p191 : lw_okq (⟨"MixStageModel", "hears", "(II)I"⟩, 104) := ⟨⟨by decide +kernel, by decide +kernel⟩, List.mem_of_getElem? (i := 1447) (by decide +kernel), List.mem_of_getElem? (i := 2125) (by decide +kernel), List.mem_of_getElem? (i := 2126) (by decide +kernel)⟩
def lw_privs_12 : List (MethodName × Nat) := [(⟨"MixStageModel", "makes", "(III)I"⟩, 104), (⟨"MixStageModel", "mixes", "(I)V"⟩, 104), (⟨"MixStageModel", "isThere", "(II)Z"⟩, 104), (⟨"MixStageModel", "atOf", "(I)I"⟩, 104), (⟨"MixStageModel", "fader", "(II)I"⟩, 104), (⟨"MixStageModel", "toOf", "(I)I"⟩, 104), (⟨"MixStageModel", "dips", "(I)V"⟩, 104), (⟨"MixStageModel", "taps", "(I)V"⟩, 104), (⟨"MixStageModel", "stales", "()V"⟩, 104), (⟨"MixStageModel", "marksOf", "(I)I"⟩, 104), (⟨"MixStageModel", "stampOf", "(I)I"⟩, 104), (⟨"MixStageModel", "leansOnStale", "(I)Z"⟩, 104), (⟨"MixStageModel", "hiss", "(I)I"⟩, 104), (⟨"MixStageModel", "isCue", "(II)Z"⟩, 104), (⟨"MixStageModel", "isLay", "(III)Z"⟩, 104), (⟨"MixStageModel", "hears", "(II)I"⟩, 104)]
theorem lw_r12 : ∀ q ∈ lw_privs_12, lw_okq q := List.forall_mem_cons.mpr ⟨lw_p176, List.forall_mem_cons.mpr ⟨lw_p177, List.forall_mem_cons.mpr ⟨lw_p178, List.forall_mem_cons.mpr ⟨lw_p179, List.forall_mem_cons.mpr ⟨lw_p180, List.forall_mem_cons.mpr ⟨lw_p181, List.forall_mem_cons.mpr ⟨lw_p182, List.forall_mem_cons.mpr ⟨lw_p183, List.forall_mem_cons.mpr ⟨lw_p184, List.forall_mem_cons.mpr ⟨lw_p185, List.forall_mem_cons.mpr ⟨lw_p186, List.forall_mem_cons.mpr ⟨lw_p187, List.forall_mem_cons.mpr ⟨lw_p188, List.forall_mem_cons.mpr ⟨lw_p189, List.forall_mem_cons.mpr ⟨lw_p190, List.forall_mem_cons.mpr ⟨lw_p191, fun _ h => absurd h List.not_mem_nil⟩⟩⟩⟩⟩⟩⟩⟩⟩⟩⟩⟩⟩⟩⟩⟩
theorem lw_p192 : lw_okq (⟨"MixStageModel", "loudOf", "(II)J"⟩, 104) := ⟨⟨by decide +kernel, by decide +kernel⟩, List.mem_of_getElem? (i := 1447) (by decide +kernel), List.mem_of_getElem? (i := 2141) (by decide +kernel), List.mem_of_getElem? (i := 2142) (by decide +kernel)⟩
theorem lw_p193 : lw_okq (⟨"MixStageModel", "isLine", "(I)Z"⟩, 104) := ⟨⟨by decide +kernel, by decide +kernel⟩, List.mem_of_getElem? (i := 1447) (by decide +kernel), List.mem_of_getElem? (i := 2161) (by decide +kernel), List.mem_of_getElem? (i := 2162) (by decide +kernel)⟩
theorem lw_p194 : lw_okq (⟨"MixStageModel", "fits", "(III)V"⟩, 104) := ⟨⟨by decide +kernel, by decide +kernel⟩, List.mem_of_getElem? (i := 1447) (by decide +kernel), List.mem_of_getElem? (i := 2165) (by decide +kernel), List.mem_of_getElem? (i := 2166) (by decide +kernel)⟩
theorem lw_p195 : lw_okq (⟨"MixStageModel", "missed", "(IIIII)I"⟩, 104) := ⟨⟨by decide +kernel, by decide +kernel⟩, List.mem_of_getElem? (i := 1447) (by decide +kernel), List.mem_of_getElem? (i := 2169) (by decide +kernel), List.mem_of_getElem? (i := 2170) (by decide +kernel)⟩
theorem lw_p196 : lw_okq (⟨"MixStageModel", "isMusic", "(III)Z"⟩, 104) := ⟨⟨by decide +kernel, by decide +kernel⟩, List.mem_of_getElem? (i := 1447) (by decide +kernel), List.mem_of_getElem? (i := 2177) (by decide +kernel), List.mem_of_getElem? (i := 2178) (by decide +kernel)⟩
theorem lw_p197 : lw_okq (⟨"MixStageModel", "soundsIn", "(III)I"⟩, 104) := ⟨⟨by decide +kernel, by decide +kernel⟩, List.mem_of_getElem? (i := 1447) (by decide +kernel), List.mem_of_getElem? (i := 2181) (by decide +kernel), List.mem_of_getElem? (i := 2182) (by decide +kernel)⟩
theorem lw_p198 : lw_okq (⟨"MixStageModel", "rootOf", "(I)I"⟩, 104) := ⟨⟨by decide +kernel, by decide +kernel⟩, List.mem_of_getElem? (i := 1447) (by decide +kernel), List.mem_of_getElem? (i := 2185) (by decide +kernel), List.mem_of_getElem? (i := 2186) (by decide +kernel)⟩
theorem lw_p199 : lw_okq (⟨"MixStageModel", "holds", "(I)Z"⟩, 104) := ⟨⟨by decide +kernel, by decide +kernel⟩, List.mem_of_getElem? (i := 1447) (by decide +kernel), List.mem_of_getElem? (i := 2193) (by decide +kernel), List.mem_of_getElem? (i := 2194) (by decide +kernel)⟩
theorem lw_p200 : lw_okq (⟨"MixStageModel", "termOf", "(II)I"⟩, 104) := ⟨⟨by decide +kernel, by decide +kernel⟩, List.mem_of_getElem? (i := 1447) (by decide +kernel), List.mem_of_getElem? (i := 2197) (by decide +kernel), List.mem_of_getElem? (i := 2198) (by decide +kernel)⟩
def lw_privs_13 : List (MethodName × Nat) := [(⟨"MixStageModel", "loudOf", "(II)J"⟩, 104), (⟨"MixStageModel", "isLine", "(I)Z"⟩, 104), (⟨"MixStageModel", "fits", "(III)V"⟩, 104), (⟨"MixStageModel", "missed", "(IIIII)I"⟩, 104), (⟨"MixStageModel", "isMusic", "(III)Z"⟩, 104), (⟨"MixStageModel", "soundsIn", "(III)I"⟩, 104), (⟨"MixStageModel", "rootOf", "(I)I"⟩, 104), (⟨"MixStageModel", "holds", "(I)Z"⟩, 104), (⟨"MixStageModel", "termOf", "(II)I"⟩, 104)]
theorem lw_r13 : ∀ q ∈ lw_privs_13, lw_okq q := List.forall_mem_cons.mpr ⟨lw_p192, List.forall_mem_cons.mpr ⟨lw_p193, List.forall_mem_cons.mpr ⟨lw_p194, List.forall_mem_cons.mpr ⟨lw_p195, List.forall_mem_cons.mpr ⟨lw_p196, List.forall_mem_cons.mpr ⟨lw_p197, List.forall_mem_cons.mpr ⟨lw_p198, List.forall_mem_cons.mpr ⟨lw_p199, List.forall_mem_cons.mpr ⟨lw_p200, fun _ h => absurd h List.not_mem_nil⟩⟩⟩⟩⟩⟩⟩⟩⟩
def lw_privs : List (MethodName × Nat) := lw_privs_1 ++ (lw_privs_2 ++ (lw_privs_3 ++ (lw_privs_4 ++ (lw_privs_5 ++ (lw_privs_6 ++ (lw_privs_7 ++ (lw_privs_8 ++ (lw_privs_9 ++ (lw_privs_10 ++ (lw_privs_11 ++ (lw_privs_12 ++ (lw_privs_13))))))))))))
def lw_tbl : List Cond := k2_sels lw_privs ++ tables_1
theorem lw_privs_ok : ∀ q ∈ lw_privs, lw_okq q := by
  show ∀ q ∈ lw_privs_1 ++ (lw_privs_2 ++ (lw_privs_3 ++ (lw_privs_4 ++ (lw_privs_5 ++ (lw_privs_6 ++ (lw_privs_7 ++ (lw_privs_8 ++ (lw_privs_9 ++ (lw_privs_10 ++ (lw_privs_11 ++ (lw_privs_12 ++ (lw_privs_13)))))))))))), lw_okq q
  exact List.forall_mem_append.mpr ⟨lw_r1, List.forall_mem_append.mpr ⟨lw_r2, List.forall_mem_append.mpr ⟨lw_r3, List.forall_mem_append.mpr ⟨lw_r4, List.forall_mem_append.mpr ⟨lw_r5, List.forall_mem_append.mpr ⟨lw_r6, List.forall_mem_append.mpr ⟨lw_r7, List.forall_mem_append.mpr ⟨lw_r8, List.forall_mem_append.mpr ⟨lw_r9, List.forall_mem_append.mpr ⟨lw_r10, List.forall_mem_append.mpr ⟨lw_r11, List.forall_mem_append.mpr ⟨lw_r12, lw_r13⟩⟩⟩⟩⟩⟩⟩⟩⟩⟩⟩⟩
-- ===== end of PART A; then your names; then what follows =====
end
section
/-! THE CLASSES, numbered: names, fields in the order of the slots, types. Printed by wip/gen/gen02.py (fields as NAMES.whole has them). -/
def gT0 : u_T := fun k => match k with
  | 0 => ("MixStage$Bank", "sounds", "[LMixStage$Sound;", true)
  | 1 => ("MixStage$Bank", "soundCount", "I", false)
  | 2 => ("MixStage$Bank", "stamp", "I", false)
  | 3 => ("MixStage$Bank", "marks", "[I", true)
  | 4 => ("MixStage$Bank", "markStamps", "[I", true)
  | 5 => ("MixStage$Bank", "hissRow", "[I", true)
  | 6 => ("MixStage$Bank", "leaning", "[I", true)
  | _ => ("MixStage$Bank", "hissing", "[I", true)
def gY0 : Nat → FieldType := fun k => match k with
  | 0 => .array (.object "MixStage$Sound")
  | 1 => .int
  | 2 => .int
  | 3 => .array .int
  | 4 => .array .int
  | 5 => .array .int
  | 6 => .array .int
  | _ => .array .int
def gT1 : u_T := fun k => match k with
  | 0 => ("MixStage$Cue", "kind", "I", false)
  | 1 => ("MixStage$Cue", "place", "I", false)
  | 2 => ("MixStage$Cue", "number", "I", false)
  | 3 => ("MixStage$Cue", "stem", "I", false)
  | 4 => ("MixStage$Cue", "mark", "I", false)
  | 5 => ("MixStage$Cue", "frame", "I", false)
  | 6 => ("MixStage$Cue", "endMark", "I", false)
  | 7 => ("MixStage$Cue", "endFrame", "I", false)
  | 8 => ("MixStage$Cue", "from", "I", false)
  | 9 => ("MixStage$Cue", "span", "I", false)
  | 10 => ("MixStage$Cue", "gain", "I", false)
  | 11 => ("MixStage$Cue", "lastGain", "I", false)
  | 12 => ("MixStage$Cue", "upper", "I", false)
  | 13 => ("MixStage$Cue", "lower", "I", false)
  | 14 => ("MixStage$Cue", "under", "I", false)
  | 15 => ("MixStage$Cue", "by", "I", false)
  | 16 => ("MixStage$Cue", "hold", "I", false)
  | 17 => ("MixStage$Cue", "weights", "[I", true)
  | _ => ("MixStage$Cue", "tapCount", "I", false)
def gY1 : Nat → FieldType := fun k => match k with
  | 0 => .int
  | 1 => .int
  | 2 => .int
  | 3 => .int
  | 4 => .int
  | 5 => .int
  | 6 => .int
  | 7 => .int
  | 8 => .int
  | 9 => .int
  | 10 => .int
  | 11 => .int
  | 12 => .int
  | 13 => .int
  | 14 => .int
  | 15 => .int
  | 16 => .int
  | 17 => .array .int
  | _ => .int
def gT2 : u_T := fun k => match k with
  | 0 => ("MixStage$Mixer", "bank", "LMixStage$Bank;", true)
  | 1 => ("MixStage$Mixer", "picture", "LMixStage$Picture;", true)
  | 2 => ("MixStage$Mixer", "view", "LMixStage$View;", true)
  | 3 => ("MixStage$Mixer", "rows", "[I", true)
  | 4 => ("MixStage$Mixer", "heardStems", "[I", true)
  | 5 => ("MixStage$Mixer", "faders", "[I", true)
  | 6 => ("MixStage$Mixer", "stems", "[J", true)
  | 7 => ("MixStage$Mixer", "mix", "[I", true)
  | _ => ("MixStage$Mixer", "length", "I", false)
def gY2 : Nat → FieldType := fun k => match k with
  | 0 => .object "MixStage$Bank"
  | 1 => .object "MixStage$Picture"
  | 2 => .object "MixStage$View"
  | 3 => .array .int
  | 4 => .array .int
  | 5 => .array .int
  | 6 => .array .long
  | 7 => .array .int
  | _ => .int
def gT3 : u_T := fun k => match k with
  | 0 => ("MixStage$Picture", "sizes", "[I", true)
  | 1 => ("MixStage$Picture", "parts", "[I", true)
  | 2 => ("MixStage$Picture", "origins", "[I", true)
  | 3 => ("MixStage$Picture", "editions", "I", false)
  | _ => ("MixStage$Picture", "told", "I", false)
def gY3 : Nat → FieldType := fun k => match k with
  | 0 => .array .int
  | 1 => .array .int
  | 2 => .array .int
  | 3 => .int
  | _ => .int
def gT4 : u_T := fun k => match k with
  | 0 => ("MixStage$Reader", "tokens", "LMixStage$Tokens;", true)
  | 1 => ("MixStage$Reader", "next", "I", false)
  | 2 => ("MixStage$Reader", "kind", "I", false)
  | 3 => ("MixStage$Reader", "fault", "I", false)
  | 4 => ("MixStage$Reader", "faultToken", "I", false)
  | 5 => ("MixStage$Reader", "laterFault", "I", false)
  | 6 => ("MixStage$Reader", "laterToken", "I", false)
  | 7 => ("MixStage$Reader", "isRules", "Z", false)
  | 8 => ("MixStage$Reader", "draft", "LMixStage$Rules;", false)
  | 9 => ("MixStage$Reader", "cues", "[LMixStage$Cue;", true)
  | 10 => ("MixStage$Reader", "cueCounts", "[I", true)
  | 11 => ("MixStage$Reader", "totals", "[I", true)
  | 12 => ("MixStage$Reader", "names", "[J", true)
  | 13 => ("MixStage$Reader", "blocks", "I", false)
  | 14 => ("MixStage$Reader", "waiting", "[I", true)
  | _ => ("MixStage$Reader", "waitingCount", "I", false)
def gY4 : Nat → FieldType := fun k => match k with
  | 0 => .object "MixStage$Tokens"
  | 1 => .int
  | 2 => .int
  | 3 => .int
  | 4 => .int
  | 5 => .int
  | 6 => .int
  | 7 => .boolean
  | 8 => .object "MixStage$Rules"
  | 9 => .array (.object "MixStage$Cue")
  | 10 => .array .int
  | 11 => .array .int
  | 12 => .array .long
  | 13 => .int
  | 14 => .array .int
  | _ => .int
def gT5 : u_T := fun k => match k with
  | 0 => ("MixStage$Rules", "ruleCount", "I", false)
  | 1 => ("MixStage$Rules", "code", "[I", true)
  | 2 => ("MixStage$Rules", "codeLength", "I", false)
  | 3 => ("MixStage$Rules", "starts", "[I", true)
  | 4 => ("MixStage$Rules", "middles", "[I", true)
  | 5 => ("MixStage$Rules", "ends", "[I", true)
  | 6 => ("MixStage$Rules", "hundreds", "[I", true)
  | 7 => ("MixStage$Rules", "widths", "[I", true)
  | 8 => ("MixStage$Rules", "variables", "[I", true)
  | 9 => ("MixStage$Rules", "stack", "[I", true)
  | 10 => ("MixStage$Rules", "height", "I", false)
  | _ => ("MixStage$Rules", "broken", "Z", false)
def gY5 : Nat → FieldType := fun k => match k with
  | 0 => .int
  | 1 => .array .int
  | 2 => .int
  | 3 => .array .int
  | 4 => .array .int
  | 5 => .array .int
  | 6 => .array .int
  | 7 => .array .int
  | 8 => .array .int
  | 9 => .array .int
  | 10 => .int
  | _ => .boolean
def gT6 : u_T := fun k => match k with
  | 0 => ("MixStage$Sheet", "edition", "I", true)
  | 1 => ("MixStage$Sheet", "cues", "[LMixStage$Cue;", true)
  | 2 => ("MixStage$Sheet", "count", "I", false)
  | 3 => ("MixStage$Sheet", "laid", "I", false)
  | _ => ("MixStage$Sheet", "hung", "I", false)
def gY6 : Nat → FieldType := fun k => match k with
  | 0 => .int
  | 1 => .array (.object "MixStage$Cue")
  | 2 => .int
  | 3 => .int
  | _ => .int
def gT7 : u_T := fun k => match k with
  | 0 => ("MixStage$Sound", "kind", "I", true)
  | 1 => ("MixStage$Sound", "first", "I", true)
  | 2 => ("MixStage$Sound", "end", "I", true)
  | 3 => ("MixStage$Sound", "source", "I", true)
  | 4 => ("MixStage$Sound", "samples", "[I", true)
  | 5 => ("MixStage$Sound", "mouths", "[I", true)
  | 6 => ("MixStage$Sound", "size", "I", false)
  | 7 => ("MixStage$Sound", "mouthCount", "I", false)
  | 8 => ("MixStage$Sound", "stamp", "I", false)
  | 9 => ("MixStage$Sound", "generation", "I", false)
  | 10 => ("MixStage$Sound", "sheet", "LMixStage$Sheet;", false)
  | 11 => ("MixStage$Sound", "sheetNumber", "I", false)
  | _ => ("MixStage$Sound", "edition", "I", false)
def gY7 : Nat → FieldType := fun k => match k with
  | 0 => .int
  | 1 => .int
  | 2 => .int
  | 3 => .int
  | 4 => .array .int
  | 5 => .array .int
  | 6 => .int
  | 7 => .int
  | 8 => .int
  | 9 => .int
  | 10 => .object "MixStage$Sheet"
  | 11 => .int
  | _ => .int
def gT8 : u_T := fun k => match k with
  | 0 => ("MixStage$Tokens", "words", "[J", true)
  | 1 => ("MixStage$Tokens", "kinds", "[I", true)
  | 2 => ("MixStage$Tokens", "places", "[I", true)
  | 3 => ("MixStage$Tokens", "values", "[J", true)
  | _ => ("MixStage$Tokens", "tokenCount", "I", false)
def gY8 : Nat → FieldType := fun k => match k with
  | 0 => .array .long
  | 1 => .array .int
  | 2 => .array .int
  | 3 => .array .long
  | _ => .int
def gT9 : u_T := fun k => match k with
  | 0 => ("MixStage$Tracer", "bank", "LMixStage$Bank;", true)
  | 1 => ("MixStage$Tracer", "picture", "LMixStage$Picture;", true)
  | 2 => ("MixStage$Tracer", "mixer", "LMixStage$Mixer;", true)
  | 3 => ("MixStage$Tracer", "sought", "[I", true)
  | 4 => ("MixStage$Tracer", "hits", "[I", true)
  | 5 => ("MixStage$Tracer", "shift", "I", false)
  | 6 => ("MixStage$Tracer", "stretch", "I", false)
  | _ => ("MixStage$Tracer", "unmet", "I", false)
def gY9 : Nat → FieldType := fun k => match k with
  | 0 => .object "MixStage$Bank"
  | 1 => .object "MixStage$Picture"
  | 2 => .object "MixStage$Mixer"
  | 3 => .array .int
  | 4 => .array .int
  | 5 => .int
  | 6 => .int
  | _ => .int
def gT10 : u_T := fun k => match k with
  | 0 => ("MixStage$View", "root", "LMixStage$Sound;", false)
  | 1 => ("MixStage$View", "shift", "I", false)
  | _ => ("MixStage$View", "size", "I", false)
def gY10 : Nat → FieldType := fun k => match k with
  | 0 => .object "MixStage$Sound"
  | 1 => .int
  | _ => .int
def gT11 : u_T := fun k => match k with
  | 0 => ("MixStage", "tape", "[I", true)
  | 1 => ("MixStage", "fed", "I", false)
  | 2 => ("MixStage", "faultPlace", "I", false)
  | 3 => ("MixStage", "sheets", "[LMixStage$Sheet;", true)
  | 4 => ("MixStage", "sheetCount", "I", false)
  | 5 => ("MixStage", "rules", "LMixStage$Rules;", false)
  | 6 => ("MixStage", "picture", "LMixStage$Picture;", true)
  | 7 => ("MixStage", "bank", "LMixStage$Bank;", true)
  | 8 => ("MixStage", "reader", "LMixStage$Reader;", true)
  | 9 => ("MixStage", "mixer", "LMixStage$Mixer;", true)
  | 10 => ("MixStage", "tracer", "LMixStage$Tracer;", true)
  | _ => ("MixStage", "view", "LMixStage$View;", true)
def gY11 : Nat → FieldType := fun k => match k with
  | 0 => .array .int
  | 1 => .int
  | 2 => .int
  | 3 => .array (.object "MixStage$Sheet")
  | 4 => .int
  | 5 => .object "MixStage$Rules"
  | 6 => .object "MixStage$Picture"
  | 7 => .object "MixStage$Bank"
  | 8 => .object "MixStage$Reader"
  | 9 => .object "MixStage$Mixer"
  | 10 => .object "MixStage$Tracer"
  | _ => .object "MixStage$View"
def gT12 : u_T := fun k => match k with
  | 0 => ("MixStageModel", "thrown", "I", false)
  | 1 => ("MixStageModel", "tape", "[B", true)
  | 2 => ("MixStageModel", "taped", "I", false)
  | 3 => ("MixStageModel", "text", "[B", true)
  | 4 => ("MixStageModel", "size", "I", false)
  | 5 => ("MixStageModel", "tKind", "[I", true)
  | 6 => ("MixStageModel", "tPlace", "[I", true)
  | 7 => ("MixStageModel", "tValue", "[I", true)
  | 8 => ("MixStageModel", "tName", "[J", true)
  | 9 => ("MixStageModel", "keys", "[J", true)
  | 10 => ("MixStageModel", "tokens", "I", false)
  | 11 => ("MixStageModel", "t", "I", false)
  | 12 => ("MixStageModel", "open", "I", false)
  | 13 => ("MixStageModel", "fault", "I", false)
  | 14 => ("MixStageModel", "faultPlace", "I", false)
  | 15 => ("MixStageModel", "worst", "I", false)
  | 16 => ("MixStageModel", "worstPlace", "I", false)
  | 17 => ("MixStageModel", "place", "I", false)
  | 18 => ("MixStageModel", "sheets", "I", false)
  | 19 => ("MixStageModel", "sheetEdition", "[I", true)
  | 20 => ("MixStageModel", "blocks", "[I", true)
  | 21 => ("MixStageModel", "blockName", "[J", true)
  | 22 => ("MixStageModel", "partMany", "[I", true)
  | 23 => ("MixStageModel", "partSize", "[I", true)
  | 24 => ("MixStageModel", "cSort", "[I", true)
  | 25 => ("MixStageModel", "cByte", "[I", true)
  | 26 => ("MixStageModel", "cWhat", "[I", true)
  | 27 => ("MixStageModel", "cMark", "[I", true)
  | 28 => ("MixStageModel", "cAt", "[I", true)
  | 29 => ("MixStageModel", "cMarkTo", "[I", true)
  | 30 => ("MixStageModel", "cTo", "[I", true)
  | 31 => ("MixStageModel", "cNumber", "[I", true)
  | 32 => ("MixStageModel", "page", "I", false)
  | 33 => ("MixStageModel", "part", "I", false)
  | 34 => ("MixStageModel", "live", "I", false)
  | 35 => ("MixStageModel", "side", "I", false)
  | 36 => ("MixStageModel", "rules", "[I", true)
  | 37 => ("MixStageModel", "ruleSort", "[I", true)
  | 38 => ("MixStageModel", "ruleFrom", "[I", true)
  | 39 => ("MixStageModel", "ruleTo", "[I", true)
  | 40 => ("MixStageModel", "litFirst", "[I", true)
  | 41 => ("MixStageModel", "litLast", "[I", true)
  | 42 => ("MixStageModel", "loudMost", "[I", true)
  | 43 => ("MixStageModel", "loudIn", "[I", true)
  | 44 => ("MixStageModel", "lits", "I", false)
  | 45 => ("MixStageModel", "litSort", "[I", true)
  | 46 => ("MixStageModel", "litNot", "[Z", true)
  | 47 => ("MixStageModel", "litOr", "[Z", true)
  | 48 => ("MixStageModel", "litLeft", "[I", true)
  | 49 => ("MixStageModel", "litRight", "[I", true)
  | 50 => ("MixStageModel", "litEnd", "[I", true)
  | 51 => ("MixStageModel", "codes", "I", false)
  | 52 => ("MixStageModel", "code", "[I", true)
  | 53 => ("MixStageModel", "codeInt", "[I", true)
  | 54 => ("MixStageModel", "waits", "[I", true)
  | 55 => ("MixStageModel", "waiting", "I", false)
  | 56 => ("MixStageModel", "variables", "[I", true)
  | 57 => ("MixStageModel", "pile", "[I", true)
  | 58 => ("MixStageModel", "isBroken", "Z", false)
  | 59 => ("MixStageModel", "termNow", "I", false)
  | 60 => ("MixStageModel", "editions", "I", false)
  | 61 => ("MixStageModel", "eFrames", "[I", true)
  | 62 => ("MixStageModel", "eParts", "[I", true)
  | 63 => ("MixStageModel", "comesFrom", "[I", true)
  | 64 => ("MixStageModel", "sounds", "I", false)
  | 65 => ("MixStageModel", "stamps", "I", false)
  | 66 => ("MixStageModel", "kind", "[I", true)
  | 67 => ("MixStageModel", "many", "[I", true)
  | 68 => ("MixStageModel", "first", "[I", true)
  | 69 => ("MixStageModel", "last", "[I", true)
  | 70 => ("MixStageModel", "of", "[I", true)
  | 71 => ("MixStageModel", "stamp", "[I", true)
  | 72 => ("MixStageModel", "generation", "[I", true)
  | 73 => ("MixStageModel", "madeSheet", "[I", true)
  | 74 => ("MixStageModel", "madeEdition", "[I", true)
  | 75 => ("MixStageModel", "samples", "[I", true)
  | 76 => ("MixStageModel", "mouths", "[I", true)
  | 77 => ("MixStageModel", "mouthAt", "[I", true)
  | 78 => ("MixStageModel", "markAt", "[I", true)
  | 79 => ("MixStageModel", "markStamp", "[I", true)
  | 80 => ("MixStageModel", "hisses", "[I", true)
  | 81 => ("MixStageModel", "chain", "[I", true)
  | 82 => ("MixStageModel", "laid", "I", false)
  | 83 => ("MixStageModel", "xCue", "[I", true)
  | 84 => ("MixStageModel", "xShift", "[I", true)
  | 85 => ("MixStageModel", "inPart", "[I", true)
  | 86 => ("MixStageModel", "inAt", "[I", true)
  | 87 => ("MixStageModel", "inShift", "[I", true)
  | 88 => ("MixStageModel", "layAt", "I", false)
  | 89 => ("MixStageModel", "stems", "[J", true)
  | 90 => ("MixStageModel", "heardIn", "[Z", true)
  | 91 => ("MixStageModel", "row", "[J", true)
  | 92 => ("MixStageModel", "mix", "[I", true)
  | 93 => ("MixStageModel", "mixMany", "I", false)
  | 94 => ("MixStageModel", "halved", "I", false)
  | 95 => ("MixStageModel", "inMark", "[I", true)
  | 96 => ("MixStageModel", "isStale", "[Z", true)
  | 97 => ("MixStageModel", "hissOf", "[I", true)
  | 98 => ("MixStageModel", "isHeard", "[Z", true)
  | 99 => ("MixStageModel", "rowOf", "[I", true)
  | 100 => ("MixStageModel", "fitMissed", "I", false)
  | 101 => ("MixStageModel", "fitShift", "I", false)
  | 102 => ("MixStageModel", "fitStretch", "I", false)
  | _ => ("MixStageModel", "lawLays", "I", false)
def gY12 : Nat → FieldType := fun k => match k with
  | 0 => .int
  | 1 => .array .byte
  | 2 => .int
  | 3 => .array .byte
  | 4 => .int
  | 5 => .array .int
  | 6 => .array .int
  | 7 => .array .int
  | 8 => .array .long
  | 9 => .array .long
  | 10 => .int
  | 11 => .int
  | 12 => .int
  | 13 => .int
  | 14 => .int
  | 15 => .int
  | 16 => .int
  | 17 => .int
  | 18 => .int
  | 19 => .array .int
  | 20 => .array .int
  | 21 => .array .long
  | 22 => .array .int
  | 23 => .array .int
  | 24 => .array .int
  | 25 => .array .int
  | 26 => .array .int
  | 27 => .array .int
  | 28 => .array .int
  | 29 => .array .int
  | 30 => .array .int
  | 31 => .array .int
  | 32 => .int
  | 33 => .int
  | 34 => .int
  | 35 => .int
  | 36 => .array .int
  | 37 => .array .int
  | 38 => .array .int
  | 39 => .array .int
  | 40 => .array .int
  | 41 => .array .int
  | 42 => .array .int
  | 43 => .array .int
  | 44 => .int
  | 45 => .array .int
  | 46 => .array .boolean
  | 47 => .array .boolean
  | 48 => .array .int
  | 49 => .array .int
  | 50 => .array .int
  | 51 => .int
  | 52 => .array .int
  | 53 => .array .int
  | 54 => .array .int
  | 55 => .int
  | 56 => .array .int
  | 57 => .array .int
  | 58 => .boolean
  | 59 => .int
  | 60 => .int
  | 61 => .array .int
  | 62 => .array .int
  | 63 => .array .int
  | 64 => .int
  | 65 => .int
  | 66 => .array .int
  | 67 => .array .int
  | 68 => .array .int
  | 69 => .array .int
  | 70 => .array .int
  | 71 => .array .int
  | 72 => .array .int
  | 73 => .array .int
  | 74 => .array .int
  | 75 => .array .int
  | 76 => .array .int
  | 77 => .array .int
  | 78 => .array .int
  | 79 => .array .int
  | 80 => .array .int
  | 81 => .array .int
  | 82 => .int
  | 83 => .array .int
  | 84 => .array .int
  | 85 => .array .int
  | 86 => .array .int
  | 87 => .array .int
  | 88 => .int
  | 89 => .array .long
  | 90 => .array .boolean
  | 91 => .array .long
  | 92 => .array .int
  | 93 => .int
  | 94 => .int
  | 95 => .array .int
  | 96 => .array .boolean
  | 97 => .array .int
  | 98 => .array .boolean
  | 99 => .array .int
  | 100 => .int
  | 101 => .int
  | 102 => .int
  | _ => .int
def gT13 : u_T := fun k => match k with
  | 0 => ("java/lang/String", "value", "[B", true)
  | _ => ("java/lang/String", "coder", "B", true)
def gY13 : Nat → FieldType := fun k => match k with
  | 0 => .array .byte
  | _ => .byte
def gCn : Nat → String := fun k => match k with
  | 0 => "MixStage$Bank"
  | 1 => "MixStage$Cue"
  | 2 => "MixStage$Mixer"
  | 3 => "MixStage$Picture"
  | 4 => "MixStage$Reader"
  | 5 => "MixStage$Rules"
  | 6 => "MixStage$Sheet"
  | 7 => "MixStage$Sound"
  | 8 => "MixStage$Tokens"
  | 9 => "MixStage$Tracer"
  | 10 => "MixStage$View"
  | 11 => "MixStage"
  | 12 => "MixStageModel"
  | _ => "java/lang/String"
def gT : Nat → u_T := fun k => match k with
  | 0 => gT0
  | 1 => gT1
  | 2 => gT2
  | 3 => gT3
  | 4 => gT4
  | 5 => gT5
  | 6 => gT6
  | 7 => gT7
  | 8 => gT8
  | 9 => gT9
  | 10 => gT10
  | 11 => gT11
  | 12 => gT12
  | _ => gT13
def gYt : Nat → (Nat → FieldType) := fun k => match k with
  | 0 => gY0
  | 1 => gY1
  | 2 => gY2
  | 3 => gY3
  | 4 => gY4
  | 5 => gY5
  | 6 => gY6
  | 7 => gY7
  | 8 => gY8
  | 9 => gY9
  | 10 => gY10
  | 11 => gY11
  | 12 => gY12
  | _ => gY13
def gN : Nat → Nat := fun k => match k with
  | 0 => 8
  | 1 => 19
  | 2 => 9
  | 3 => 5
  | 4 => 16
  | 5 => 12
  | 6 => 5
  | 7 => 13
  | 8 => 5
  | 9 => 8
  | 10 => 3
  | 11 => 12
  | 12 => 104
  | _ => 2
/-! THE PURE PICTURE: cells at places 0, 1, .. ; the first G.1 places are outer cells (never written), the others lie one behind the other from the address G.2.1 on. -/
abbrev gC : Type := (Nat × (Nat → Value)) ⊕ (Nat × Nat × (Nat → Value))
abbrev gH : Type := List gC
abbrev gL : Type := List (Nat × Value)
abbrev gG : Type := Nat × Nat × (Nat → Nat) × (Nat → ClassId) × (Nat → Nat → Nat) × Option Nat
def gad (G : gG) (i : Nat) : Nat := if i < G.1 then G.2.2.1 i else G.2.1 + (i - G.1)
def grv (G : gG) : Value → Value
  | .ref i => .ref (gad G i)
  | .retAddr _ => va_rf G.2.2.2.2.2
  | v => v
theorem grv_cat (G : gG) (v : Value) : (grv G v).category = v.category := by
  cases v <;> first | rfl | (show (va_rf G.2.2.2.2.2).category = 1; cases G.2.2.2.2.2 <;> rfl)
theorem grv_int (G : gG) (x : Int32) : grv G (.int x) = .int x := rfl
theorem grv_long (G : gG) (x : Int64) : grv G (.long x) = .long x := rfl
theorem grv_null (G : gG) : grv G .null = .null := rfl
theorem grv_ref (G : gG) (x : Nat) : grv G (.ref x) = .ref (gad G x) := rfl
def gTy : Nat → FieldType
  | 0 => .int
  | 1 => .long
  | 2 => .byte
  | 3 => .boolean
  | 4 => .object "MixStage$Sheet"
  | 5 => .object "MixStage$Sound"
  | _ => .object "MixStage$Cue"
def gsz1 : gC → Nat
  | .inl o => gN o.1
  | .inr a => a.2.1
def gsz (lh : gH) : Nat := (lh.map gsz1).sum
def gAt (G : gG) (U : State) (i : Nat) (c : gC) (H : Heap) : Prop := match c with
  | .inl o => o.1 < 14 ∧ ∃ cell : Cell, H[gad G i]? = some cell ∧ cell.cls = G.2.2.2.1 o.1 ∧ cell.vm ≠ .unknown ∧ cell.vm.isStatics = false ∧ (G.1 ≤ i → cell.vm = .none ∧ o.1 < 13) ∧ ∀ j, j < gN o.1 → cell.slots[G.2.2.2.2.1 o.1 j]? = some (grv G (o.2 j))
  | .inr a => a.1 < 7 ∧ ∃ cell : Cell, H[gad G i]? = some cell ∧ U.isArrayOf cell (gTy a.1) ∧ cell.vm ≠ .unknown ∧ a.2.1 ≤ cell.slots.size ∧ cell.slots.size.toInt32 = Int32.ofNat a.2.1 ∧ (∀ j, j < a.2.1 → cell.slots[j]? = some (grv G (a.2.2 j))) ∧ (G.1 ≤ i → cell.vm = .none ∧ va_RA U cell.cls (gTy a.1))
def gR (G : gG) (U : State) (lh : gH) (H : Heap) : Prop := H.size + G.1 = G.2.1 + lh.length ∧ G.1 ≤ lh.length ∧ (∀ i, i < G.1 → G.2.2.1 i < G.2.1) ∧ ∀ (i : Nat) (c : gC), lh[i]? = some c → gAt G U i c H
theorem gAt.moved {G : gG} {u U : State} (hvm : u.vm.Alike U.vm) {i : Nat} {c : gC} {H : Heap} (h : gAt G u i c H) : gAt G U i c H := by
  cases c with
  | inl o => exact h
  | inr a =>
    obtain ⟨h0, cell, h1, h2, h3, h4, h5, h6, h7⟩ := h
    exact ⟨h0, cell, h1, State.isArrayOf_alike hvm h2, h3, h4, h5, h6, fun q => ⟨(h7 q).1, (h7 q).2.moved hvm⟩⟩
theorem gR.moved {G : gG} {u U : State} (hvm : u.vm.Alike U.vm) {lh : gH} {H : Heap} (h : gR G u lh H) : gR G U lh H := ⟨h.1, h.2.1, h.2.2.1, fun i c hc => (h.2.2.2 i c hc).moved hvm⟩
theorem gAt.kept {G : gG} {U : State} {i : Nat} {c : gC} {H H1 : Heap} (h : gAt G U i c H) (hq : H1[gad G i]? = H[gad G i]?) : gAt G U i c H1 := by
  cases c with
  | inl o =>
    obtain ⟨h0, cell, h1, h2⟩ := h
    exact ⟨h0, cell, by rw [hq]; exact h1, h2⟩
  | inr a =>
    obtain ⟨h0, cell, h1, h2⟩ := h
    exact ⟨h0, cell, by rw [hq]; exact h1, h2⟩
theorem gad_own {G : gG} {i : Nat} (h : G.1 ≤ i) : gad G i = G.2.1 + (i - G.1) := by unfold gad; rw [if_neg (by omega)]
theorem gR.lt {G : gG} {U : State} {lh : gH} {H : Heap} (h : gR G U lh H) {i : Nat} (hi : i < lh.length) : gad G i < H.size := by
  obtain ⟨h1, h2, h3, -⟩ := h
  by_cases q : i < G.1
  · unfold gad
    rw [if_pos q]
    have := h3 i q
    omega
  · rw [gad_own (by omega)]
    omega
theorem gR.ne {G : gG} {U : State} {lh : gH} {H : Heap} (h : gR G U lh H) {i j : Nat} (hi : G.1 ≤ i) (hj : j ≠ i) : gad G j ≠ gad G i := by
  obtain ⟨h1, h2, h3, -⟩ := h
  rw [gad_own hi]
  by_cases q : j < G.1
  · unfold gad
    rw [if_pos q]
    have := h3 j q
    omega
  · rw [gad_own (by omega)]
    omega
/-- one cell written -/
theorem gR.set {G : gG} {U : State} {lh : gH} {H H1 : Heap} (h : gR G U lh H) {i : Nat} {c : gC} (hi : G.1 ≤ i) (hc : gAt G U i c H1) (hz : H1.size = H.size) (hk : ∀ q, q ≠ gad G i → H1[q]? = H[q]?) : gR G U (lh.set i c) H1 := by
  refine ⟨by rw [hz, List.length_set]; exact h.1, by rw [List.length_set]; exact h.2.1, h.2.2.1, fun j d hd => ?_⟩
  by_cases hj : j = i
  · subst hj
    have hl : j < lh.length := by
      have := (List.getElem?_eq_some_iff.mp hd).1
      rwa [List.length_set] at this
    rw [List.getElem?_set_self hl] at hd
    cases hd
    exact hc
  · rw [List.getElem?_set_ne (Ne.symm hj)] at hd
    exact (h.2.2.2 j d hd).kept (hk _ (h.ne hi hj))
/-- a cell made -/
theorem gR.push {G : gG} {U : State} {lh : gH} {H H1 : Heap} (h : gR G U lh H) {c : gC} (hc : gAt G U lh.length c H1) (hz : H1.size = H.size + 1) (hk : ∀ q, q < H.size → H1[q]? = H[q]?) : gR G U (lh ++ [c]) H1 := by
  have h1 := h.1
  have h2 := h.2.1
  refine ⟨by rw [hz, List.length_append]; show H.size + 1 + G.1 = G.2.1 + (lh.length + 1); omega, by rw [List.length_append]; omega, h.2.2.1, fun j d hd => ?_⟩
  by_cases hj : j < lh.length
  · rw [List.getElem?_append_left hj] at hd
    exact (h.2.2.2 j d hd).kept (hk _ (h.lt hj))
  · rw [List.getElem?_append_right (by omega)] at hd
    have hz : j - lh.length < 1 := (List.getElem?_eq_some_iff.mp hd).1
    rw [show j - lh.length = 0 by omega] at hd
    cases hd
    rw [show j = lh.length by omega]
    exact hc
theorem gR.top {G : gG} {U : State} {lh : gH} {H : Heap} (h : gR G U lh H) : gad G lh.length = H.size := by
  rw [gad_own h.2.1]
  have := h.1
  have := h.2.1
  omega
/-- the words that a method may use, whatever its arguments -/
def gGood : Cond → Bool
  | .fieldLinkNest .. => true
  | .methodLinkNest .. => true
  | .arrayOver (.object _) => true
  | w => goodWord w
def gTb (U : State) : Prop := ∀ w ∈ lw_tbl, gGood w = true → ∀ a : Array Value, w.before a U = true
theorem gTb.word {s U : State} (hW : s.WarmedH U.vm) {w : Cond} (hw : gGood w = true) (h : ∀ a : Array Value, w.before a s = true) (a : Array Value) : w.before a U = true := by
  unfold gGood at hw
  split at hw
  · exact va_Nw.use rfl (va_Nw.warmF hW (h #[]))
  · exact va_Nw.use rfl (va_Nw.warmM hW (h #[]))
  · exact va_AO.use (A := a) (va_AO.moved hW.alike (h #[]))
  · exact word_at hW (good_of_word hw) (h #[])
theorem gTb.warm {s U : State} (hW : s.WarmedH U.vm) (h : gTb s) : gTb U := fun w hw hg a => gTb.word hW hg (h w hw hg) a
theorem gTb.of {s : State} {args : Array Value} (h : ∀ w ∈ lw_tbl, w.before args s = true) : gTb s := by
  intro w hw hg a
  have h0 := h w hw
  unfold gGood at hg
  split at hg
  · exact va_tabs rfl rfl h0
  · exact va_tabs rfl rfl h0
  · exact h0
  · exact word_at (State.WarmedH.refl s) (good_of_word hg) h0
/-- what is known of the classes -/
def gKn (G : gG) (U : State) : Prop := (∀ k, k < 14 → U.vm.findClass (gCn k) = some (G.2.2.2.1 k) ∧ ∃ kC : Class, U.vm.classes[G.2.2.2.1 k]? = some kC ∧ kC.kind = .ordinary) ∧ ∀ k, k < 14 → ∀ f, f < gN k → ∃ (cf : ClassId) (kf : Class) (fi : Nat) (fd : Field), U.fieldFound? (gT k f).1 (gT k f).2.1 (gT k f).2.2.1 = some (cf, kf, fi, fd) ∧ fd.isStatic = false ∧ fd.slot = G.2.2.2.2.1 k f
theorem gKn.moved {G : gG} {u U : State} (hvm : u.vm.Alike U.vm) (h : gKn G u) : gKn G U := by
  refine ⟨fun k hk => classAt_moved hvm (h.1 k hk), fun k hk f hf => ?_⟩
  obtain ⟨cf, kf, fi, fd, h1, h2, h3⟩ := h.2 k hk f hf
  obtain ⟨kf', hi', -⟩ := State.fieldFound?_setVm (s := u) hvm h1
  exact ⟨cf, kf', fi, fd, by simpa only [State.fieldFound?, State.vm_setVm] using hi', h2, h3⟩
/-- the constants: three texts (places 1, 3, 5), and the two statics that are read -/
def gSt : Nat → Nat × String
  | 0 => (27, "block end sheet rules lay fade dip taps clip use at from for gain speed ")
  | 1 => (33, "stem to under by hold of mark right if loud in or and not ")
  | _ => (35, "seconds owner land frames heard ")
def gCs (G : gG) (U : State) (H : Heap) : Prop := (∀ k, k < 3 → vk_R "MixStage$Tokens" (gSt k).1 (gSt k).2 (gad G (2 * k + 1)) U) ∧ va_Z "java/lang/String" "COMPACT_STRINGS" "Z" (.int 1) (fun q => G.2.1 ≤ q) U H ∧ va_Z "jdk/internal/util/Preconditions" "SIOOBE_FORMATTER" "Ljava/util/function/BiFunction;" (va_rf G.2.2.2.2.2) (fun q => G.2.1 ≤ q) U H
theorem gCs.warm {G : gG} {s U : State} {H : Heap} (hW : s.WarmedH U.vm) (h : gCs G s H) : gCs G U H := ⟨fun k hk => vk_R.warm hW (h.1 k hk), va_Z.moved hW.alike h.2.1, va_Z.moved hW.alike h.2.2⟩
theorem gCs.kept {G : gG} {U : State} {H H1 : Heap} (h : gCs G U H) (hq : ∀ a : Nat, a < H.size → ¬ G.2.1 ≤ a → H1[a]? = H[a]?) : gCs G U H1 := ⟨h.1, va_Z.kept h.2.1 hq, va_Z.kept h.2.2 hq⟩
def gKs (G : gG) (U : State) (H : Heap) : Prop := gTb U ∧ gKn G U ∧ gCs G U H
theorem gKs.warm {G : gG} {s U : State} {H : Heap} (hW : s.WarmedH U.vm) (h : gKs G s H) : gKs G U H := ⟨h.1.warm hW, h.2.1.moved hW.alike, h.2.2.warm hW⟩
theorem gKs.kept {G : gG} {U : State} {H H1 : Heap} (h : gKs G U H) (hq : ∀ a : Nat, a < H.size → ¬ G.2.1 ≤ a → H1[a]? = H[a]?) : gKs G U H1 := ⟨h.1, h.2.1, h.2.2.kept hq⟩
end
section
/-! EVERY METHOD, numbered: its instructions (pc, instruction, what it resolves to, places of its words in lw_tbl), and its own row. Printed by wip/gen/gen03.py. -/
abbrev gE : Type := Nat × Instr × Nat × Nat × Int × List Nat
abbrev gMt : Type := MethodName × Nat × Option FieldType × Nat × Nat
def gP0 : List (List gE) := [
  [(0, .new 7, 11, 0, 0, [1021, 1022, 1001]), (3, .dup, 0, 0, 0, []), (4, .invokespecial 9, 154, 0, 0, [1023, 1024, 1001, 1025]), (7, .astore_n 1, 0, 0, 0, []), (8, .new 10, 12, 0, 0, [7006, 7007, 1015]), (11, .dup, 0, 0, 0, []), (12, .invokespecial 12, 204, 0, 0, [7008, 7009, 1015, 7010]), (15, .astore_n 2, 0, 0, 0, []), (16, .iconst 0, 0, 0, 0, []), (17, .istore_n 3, 0, 0, 0, []), (18, .iload_n 3, 0, 0, 0, []), (19, .aload_n 0, 0, 0, 0, []), (20, .arraylength, 0, 0, 0, []), (21, .bipush 6, 0, 0, 0, []), (23, .isub, 0, 0, 0, []), (24, .if_icmp .gt 1389, 1413, 0, 0, []), (27, .aload_n 0, 0, 0, 0, []), (28, .iload_n 3, 0, 0, 0, []), (29, .iaload, 0, 0, 0, []), (30, .bipush 63, 0, 0, 0, [])],
  [(32, .iand, 0, 0, 0, []), (33, .tableswitch 1374 0 36 #[163, 226, 249, 262, 275, 298, 311, 344, 367, 390, 433, 486, 529, 552, 565, 628, 671, 704, 737, 770, 813, 826, 849, 882, 915, 938, 961, 1004, 1047, 1090, 1123, 1156, 1179, 1202, 1255, 1298, 1351], 0, 0, 0, [])],
  [],
  [],
  [],
  [],
  [(196, .aload_n 1, 0, 0, 0, []), (197, .aload_n 0, 0, 0, 0, []), (198, .iload_n 3, 0, 0, 0, []), (199, .iconst 1, 0, 0, 0, []), (200, .iadd, 0, 0, 0, []), (201, .iaload, 0, 0, 0, []), (202, .aload_n 0, 0, 0, 0, []), (203, .iload_n 3, 0, 0, 0, []), (204, .iconst 2, 0, 0, 0, []), (205, .iadd, 0, 0, 0, []), (206, .iaload, 0, 0, 0, []), (207, .aload_n 0, 0, 0, 0, []), (208, .iload_n 3, 0, 0, 0, []), (209, .iconst 3, 0, 0, 0, []), (210, .iadd, 0, 0, 0, []), (211, .iaload, 0, 0, 0, []), (212, .aload_n 0, 0, 0, 0, []), (213, .iload_n 3, 0, 0, 0, []), (214, .iconst 4, 0, 0, 0, []), (215, .iadd, 0, 0, 0, []), (216, .iaload, 0, 0, 0, []), (217, .aload_n 0, 0, 0, 0, []), (218, .iload_n 3, 0, 0, 0, []), (219, .iconst 5, 0, 0, 0, []), (220, .iadd, 0, 0, 0, []), (221, .iaload, 0, 0, 0, []), (222, .invokevirtual 13, 155, 5, 11, [3042, 3043, 3044, 1001, 3045])],
  [(225, .aload_n 2, 0, 0, 0, []), (226, .aload_n 0, 0, 0, 0, []), (227, .iload_n 3, 0, 0, 0, []), (228, .iconst 1, 0, 0, 0, []), (229, .iadd, 0, 0, 0, []), (230, .iaload, 0, 0, 0, []), (231, .aload_n 0, 0, 0, 0, []), (232, .iload_n 3, 0, 0, 0, []), (233, .iconst 2, 0, 0, 0, []), (234, .iadd, 0, 0, 0, []), (235, .iaload, 0, 0, 0, []), (236, .aload_n 0, 0, 0, 0, []), (237, .iload_n 3, 0, 0, 0, []), (238, .iconst 3, 0, 0, 0, []), (239, .iadd, 0, 0, 0, []), (240, .iaload, 0, 0, 0, []), (241, .aload_n 0, 0, 0, 0, []), (242, .iload_n 3, 0, 0, 0, []), (243, .iconst 4, 0, 0, 0, []), (244, .iadd, 0, 0, 0, []), (245, .iaload, 0, 0, 0, []), (246, .aload_n 0, 0, 0, 0, []), (247, .iload_n 3, 0, 0, 0, []), (248, .iconst 5, 0, 0, 0, []), (249, .iadd, 0, 0, 0, []), (250, .iaload, 0, 0, 0, []), (251, .invokevirtual 17, 205, 5, 12, [8092, 8093, 8094, 1015, 8095]), (254, .if_icmp .eq 1153, 1407, 0, 0, [])],
  [(257, .iconst 0, 0, 0, 0, []), (258, .ireturn, 0, 0, 0, []), (259, .aload_n 1, 0, 0, 0, []), (260, .aload_n 0, 0, 0, 0, []), (261, .iload_n 3, 0, 0, 0, []), (262, .iconst 1, 0, 0, 0, []), (263, .iadd, 0, 0, 0, []), (264, .iaload, 0, 0, 0, []), (265, .invokevirtual 18, 156, 1, 11, [3051, 3052, 3053, 1001, 3054]), (268, .aload_n 2, 0, 0, 0, []), (269, .aload_n 0, 0, 0, 0, []), (270, .iload_n 3, 0, 0, 0, []), (271, .iconst 1, 0, 0, 0, []), (272, .iadd, 0, 0, 0, []), (273, .iaload, 0, 0, 0, []), (274, .invokevirtual 22, 207, 1, 12, [8100, 8101, 8102, 1015, 8103]), (277, .if_icmp .eq 1130, 1407, 0, 0, []), (280, .iconst 0, 0, 0, 0, []), (281, .ireturn, 0, 0, 0, []), (282, .aload_n 1, 0, 0, 0, []), (283, .invokevirtual 23, 157, 0, 11, [3055, 3056, 3057, 1001, 3058]), (286, .aload_n 2, 0, 0, 0, []), (287, .invokevirtual 27, 221, 0, 12, [8104, 8105, 8106, 1015, 8107])],
  [(290, .if_icmp .eq 1117, 1407, 0, 0, []), (293, .iconst 0, 0, 0, 0, []), (294, .ireturn, 0, 0, 0, []), (295, .aload_n 1, 0, 0, 0, []), (296, .invokevirtual 28, 158, 0, 11, [4108, 4109, 4110, 1001, 4111]), (299, .aload_n 2, 0, 0, 0, []), (300, .invokevirtual 31, 222, 0, 12, [8210, 8211, 8212, 1015, 8213]), (303, .if_icmp .eq 1104, 1407, 0, 0, []), (306, .iconst 0, 0, 0, 0, []), (307, .ireturn, 0, 0, 0, []), (308, .aload_n 1, 0, 0, 0, []), (309, .aload_n 0, 0, 0, 0, []), (310, .iload_n 3, 0, 0, 0, []), (311, .iconst 1, 0, 0, 0, []), (312, .iadd, 0, 0, 0, []), (313, .iaload, 0, 0, 0, []), (314, .invokevirtual 32, 159, 1, 11, [4112, 4113, 4114, 1001, 4115]), (317, .aload_n 2, 0, 0, 0, []), (318, .aload_n 0, 0, 0, 0, []), (319, .iload_n 3, 0, 0, 0, [])],
  [(320, .iconst 1, 0, 0, 0, []), (321, .iadd, 0, 0, 0, []), (322, .iaload, 0, 0, 0, []), (323, .invokevirtual 36, 240, 1, 12, [8214, 8215, 8216, 1015, 8217]), (326, .if_icmp .eq 1081, 1407, 0, 0, []), (329, .iconst 0, 0, 0, 0, []), (330, .ireturn, 0, 0, 0, []), (331, .aload_n 1, 0, 0, 0, []), (332, .invokevirtual 37, 160, 0, 11, [4120, 4121, 4122, 1001, 4123]), (335, .aload_n 2, 0, 0, 0, []), (336, .invokevirtual 40, 241, 0, 12, [8218, 8219, 8220, 1015, 8221]), (339, .if_icmp .eq 1068, 1407, 0, 0, []), (342, .iconst 0, 0, 0, 0, []), (343, .ireturn, 0, 0, 0, []), (344, .aload_n 1, 0, 0, 0, []), (345, .aload_n 0, 0, 0, 0, []), (346, .iload_n 3, 0, 0, 0, []), (347, .iconst 1, 0, 0, 0, []), (348, .iadd, 0, 0, 0, []), (349, .iaload, 0, 0, 0, []), (350, .aload_n 0, 0, 0, 0, []), (351, .iload_n 3, 0, 0, 0, [])],
  [(352, .iconst 2, 0, 0, 0, []), (353, .iadd, 0, 0, 0, []), (354, .iaload, 0, 0, 0, []), (355, .invokevirtual 41, 161, 2, 11, [4133, 4134, 4135, 1001, 4136]), (358, .aload_n 2, 0, 0, 0, []), (359, .aload_n 0, 0, 0, 0, []), (360, .iload_n 3, 0, 0, 0, []), (361, .iconst 1, 0, 0, 0, []), (362, .iadd, 0, 0, 0, []), (363, .iaload, 0, 0, 0, []), (364, .aload_n 0, 0, 0, 0, []), (365, .iload_n 3, 0, 0, 0, []), (366, .iconst 2, 0, 0, 0, []), (367, .iadd, 0, 0, 0, []), (368, .iaload, 0, 0, 0, []), (369, .invokevirtual 45, 244, 2, 12, [8222, 8223, 8224, 1015, 8225]), (372, .if_icmp .eq 1035, 1407, 0, 0, []), (375, .iconst 0, 0, 0, 0, []), (376, .ireturn, 0, 0, 0, []), (377, .aload_n 1, 0, 0, 0, []), (378, .aload_n 0, 0, 0, 0, []), (379, .iload_n 3, 0, 0, 0, []), (380, .iconst 1, 0, 0, 0, []), (381, .iadd, 0, 0, 0, []), (382, .iaload, 0, 0, 0, []), (383, .invokevirtual 46, 162, 1, 11, [4142, 4143, 4144, 1001, 4145])],
  [(386, .aload_n 2, 0, 0, 0, []), (387, .aload_n 0, 0, 0, 0, []), (388, .iload_n 3, 0, 0, 0, []), (389, .iconst 1, 0, 0, 0, []), (390, .iadd, 0, 0, 0, []), (391, .iaload, 0, 0, 0, []), (392, .invokevirtual 49, 245, 1, 12, [8234, 8235, 8236, 1015, 8237]), (395, .if_icmp .eq 1012, 1407, 0, 0, []), (398, .iconst 0, 0, 0, 0, []), (399, .ireturn, 0, 0, 0, []), (400, .aload_n 1, 0, 0, 0, []), (401, .aload_n 0, 0, 0, 0, []), (402, .iload_n 3, 0, 0, 0, []), (403, .iconst 1, 0, 0, 0, []), (404, .iadd, 0, 0, 0, []), (405, .iaload, 0, 0, 0, []), (406, .invokevirtual 50, 163, 1, 11, [4146, 4147, 4148, 1001, 4149]), (409, .aload_n 2, 0, 0, 0, []), (410, .aload_n 0, 0, 0, 0, []), (411, .iload_n 3, 0, 0, 0, []), (412, .iconst 1, 0, 0, 0, []), (413, .iadd, 0, 0, 0, []), (414, .iaload, 0, 0, 0, []), (415, .invokevirtual 53, 247, 1, 12, [8238, 8239, 9000, 1015, 9001])],
  [(418, .if_icmp .eq 989, 1407, 0, 0, []), (421, .iconst 0, 0, 0, 0, []), (422, .ireturn, 0, 0, 0, []), (423, .aload_n 1, 0, 0, 0, []), (424, .aload_n 0, 0, 0, 0, []), (425, .iload_n 3, 0, 0, 0, []), (426, .iconst 1, 0, 0, 0, []), (427, .iadd, 0, 0, 0, []), (428, .iaload, 0, 0, 0, []), (429, .aload_n 0, 0, 0, 0, []), (430, .iload_n 3, 0, 0, 0, []), (431, .iconst 2, 0, 0, 0, []), (432, .iadd, 0, 0, 0, []), (433, .iaload, 0, 0, 0, []), (434, .aload_n 0, 0, 0, 0, []), (435, .iload_n 3, 0, 0, 0, []), (436, .iconst 3, 0, 0, 0, []), (437, .iadd, 0, 0, 0, []), (438, .iaload, 0, 0, 0, []), (439, .invokevirtual 54, 164, 3, 11, [4154, 4155, 4156, 1001, 4157]), (442, .aload_n 2, 0, 0, 0, []), (443, .aload_n 0, 0, 0, 0, []), (444, .iload_n 3, 0, 0, 0, []), (445, .iconst 1, 0, 0, 0, []), (446, .iadd, 0, 0, 0, []), (447, .iaload, 0, 0, 0, [])],
  [(448, .aload_n 0, 0, 0, 0, []), (449, .iload_n 3, 0, 0, 0, []), (450, .iconst 2, 0, 0, 0, []), (451, .iadd, 0, 0, 0, []), (452, .iaload, 0, 0, 0, []), (453, .aload_n 0, 0, 0, 0, []), (454, .iload_n 3, 0, 0, 0, []), (455, .iconst 3, 0, 0, 0, []), (456, .iadd, 0, 0, 0, []), (457, .iaload, 0, 0, 0, []), (458, .invokevirtual 58, 249, 3, 12, [9006, 9007, 9008, 1015, 9009]), (461, .if_icmp .eq 946, 1407, 0, 0, []), (464, .iconst 0, 0, 0, 0, []), (465, .ireturn, 0, 0, 0, []), (466, .aload_n 1, 0, 0, 0, []), (467, .aload_n 0, 0, 0, 0, []), (468, .iload_n 3, 0, 0, 0, []), (469, .iconst 1, 0, 0, 0, []), (470, .iadd, 0, 0, 0, []), (471, .iaload, 0, 0, 0, []), (472, .aload_n 0, 0, 0, 0, []), (473, .iload_n 3, 0, 0, 0, []), (474, .iconst 2, 0, 0, 0, []), (475, .iadd, 0, 0, 0, []), (476, .iaload, 0, 0, 0, []), (477, .aload_n 0, 0, 0, 0, []), (478, .iload_n 3, 0, 0, 0, []), (479, .iconst 3, 0, 0, 0, [])],
  [(480, .iadd, 0, 0, 0, []), (481, .iaload, 0, 0, 0, []), (482, .aload_n 0, 0, 0, 0, []), (483, .iload_n 3, 0, 0, 0, []), (484, .iconst 4, 0, 0, 0, []), (485, .iadd, 0, 0, 0, []), (486, .iaload, 0, 0, 0, []), (487, .invokevirtual 59, 165, 4, 11, [4162, 4163, 4164, 1001, 4165]), (490, .aload_n 2, 0, 0, 0, []), (491, .aload_n 0, 0, 0, 0, []), (492, .iload_n 3, 0, 0, 0, []), (493, .iconst 1, 0, 0, 0, []), (494, .iadd, 0, 0, 0, []), (495, .iaload, 0, 0, 0, []), (496, .aload_n 0, 0, 0, 0, []), (497, .iload_n 3, 0, 0, 0, []), (498, .iconst 2, 0, 0, 0, []), (499, .iadd, 0, 0, 0, []), (500, .iaload, 0, 0, 0, []), (501, .aload_n 0, 0, 0, 0, []), (502, .iload_n 3, 0, 0, 0, []), (503, .iconst 3, 0, 0, 0, []), (504, .iadd, 0, 0, 0, []), (505, .iaload, 0, 0, 0, []), (506, .aload_n 0, 0, 0, 0, []), (507, .iload_n 3, 0, 0, 0, []), (508, .iconst 4, 0, 0, 0, []), (509, .iadd, 0, 0, 0, []), (510, .iaload, 0, 0, 0, []), (511, .invokevirtual 63, 253, 4, 12, [9014, 9015, 9016, 1015, 9017])],
  [(514, .if_icmp .eq 893, 1407, 0, 0, []), (517, .iconst 0, 0, 0, 0, []), (518, .ireturn, 0, 0, 0, []), (519, .aload_n 1, 0, 0, 0, []), (520, .aload_n 0, 0, 0, 0, []), (521, .iload_n 3, 0, 0, 0, []), (522, .iconst 1, 0, 0, 0, []), (523, .iadd, 0, 0, 0, []), (524, .iaload, 0, 0, 0, []), (525, .aload_n 0, 0, 0, 0, []), (526, .iload_n 3, 0, 0, 0, []), (527, .iconst 2, 0, 0, 0, []), (528, .iadd, 0, 0, 0, []), (529, .iaload, 0, 0, 0, []), (530, .aload_n 0, 0, 0, 0, []), (531, .iload_n 3, 0, 0, 0, []), (532, .iconst 3, 0, 0, 0, []), (533, .iadd, 0, 0, 0, []), (534, .iaload, 0, 0, 0, []), (535, .invokevirtual 64, 166, 3, 11, [5008, 5009, 5010, 1001, 5011]), (538, .aload_n 2, 0, 0, 0, []), (539, .aload_n 0, 0, 0, 0, []), (540, .iload_n 3, 0, 0, 0, []), (541, .iconst 1, 0, 0, 0, []), (542, .iadd, 0, 0, 0, []), (543, .iaload, 0, 0, 0, [])],
  [(544, .aload_n 0, 0, 0, 0, []), (545, .iload_n 3, 0, 0, 0, []), (546, .iconst 2, 0, 0, 0, []), (547, .iadd, 0, 0, 0, []), (548, .iaload, 0, 0, 0, []), (549, .aload_n 0, 0, 0, 0, []), (550, .iload_n 3, 0, 0, 0, []), (551, .iconst 3, 0, 0, 0, []), (552, .iadd, 0, 0, 0, []), (553, .iaload, 0, 0, 0, []), (554, .invokevirtual 67, 254, 3, 12, [9025, 9026, 9027, 1015, 9028]), (557, .if_icmp .eq 850, 1407, 0, 0, []), (560, .iconst 0, 0, 0, 0, []), (561, .ireturn, 0, 0, 0, []), (562, .aload_n 1, 0, 0, 0, []), (563, .aload_n 0, 0, 0, 0, []), (564, .iload_n 3, 0, 0, 0, []), (565, .iconst 1, 0, 0, 0, []), (566, .iadd, 0, 0, 0, []), (567, .iaload, 0, 0, 0, []), (568, .invokevirtual 68, 167, 1, 11, [5016, 5017, 5018, 1001, 5019]), (571, .aload_n 2, 0, 0, 0, []), (572, .aload_n 0, 0, 0, 0, []), (573, .iload_n 3, 0, 0, 0, []), (574, .iconst 1, 0, 0, 0, []), (575, .iadd, 0, 0, 0, [])],
  [(576, .iaload, 0, 0, 0, []), (577, .invokevirtual 71, 255, 1, 12, [9033, 9034, 9035, 1015, 9036]), (580, .if_icmp .eq 827, 1407, 0, 0, []), (583, .iconst 0, 0, 0, 0, []), (584, .ireturn, 0, 0, 0, []), (585, .aload_n 1, 0, 0, 0, []), (586, .invokevirtual 72, 168, 0, 11, [5025, 5026, 5027, 1001, 5028]), (589, .aload_n 2, 0, 0, 0, []), (590, .invokevirtual 75, 256, 0, 12, [9037, 9038, 9039, 1015, 9040]), (593, .if_icmp .eq 814, 1407, 0, 0, []), (596, .iconst 0, 0, 0, 0, []), (597, .ireturn, 0, 0, 0, []), (598, .aload_n 1, 0, 0, 0, []), (599, .aload_n 0, 0, 0, 0, []), (600, .iload_n 3, 0, 0, 0, []), (601, .iconst 1, 0, 0, 0, []), (602, .iadd, 0, 0, 0, []), (603, .iaload, 0, 0, 0, []), (604, .aload_n 0, 0, 0, 0, []), (605, .iload_n 3, 0, 0, 0, []), (606, .iconst 2, 0, 0, 0, []), (607, .iadd, 0, 0, 0, [])],
  [(608, .iaload, 0, 0, 0, []), (609, .aload_n 0, 0, 0, 0, []), (610, .iload_n 3, 0, 0, 0, []), (611, .iconst 3, 0, 0, 0, []), (612, .iadd, 0, 0, 0, []), (613, .iaload, 0, 0, 0, []), (614, .aload_n 0, 0, 0, 0, []), (615, .iload_n 3, 0, 0, 0, []), (616, .iconst 4, 0, 0, 0, []), (617, .iadd, 0, 0, 0, []), (618, .iaload, 0, 0, 0, []), (619, .aload_n 0, 0, 0, 0, []), (620, .iload_n 3, 0, 0, 0, []), (621, .iconst 5, 0, 0, 0, []), (622, .iadd, 0, 0, 0, []), (623, .iaload, 0, 0, 0, []), (624, .invokevirtual 76, 169, 5, 11, [5029, 5030, 5031, 1001, 5032]), (627, .aload_n 2, 0, 0, 0, []), (628, .aload_n 0, 0, 0, 0, []), (629, .iload_n 3, 0, 0, 0, []), (630, .iconst 1, 0, 0, 0, []), (631, .iadd, 0, 0, 0, []), (632, .iaload, 0, 0, 0, []), (633, .aload_n 0, 0, 0, 0, []), (634, .iload_n 3, 0, 0, 0, []), (635, .iconst 2, 0, 0, 0, []), (636, .iadd, 0, 0, 0, []), (637, .iaload, 0, 0, 0, []), (638, .aload_n 0, 0, 0, 0, []), (639, .iload_n 3, 0, 0, 0, [])],
  [(640, .iconst 3, 0, 0, 0, []), (641, .iadd, 0, 0, 0, []), (642, .iaload, 0, 0, 0, []), (643, .aload_n 0, 0, 0, 0, []), (644, .iload_n 3, 0, 0, 0, []), (645, .iconst 4, 0, 0, 0, []), (646, .iadd, 0, 0, 0, []), (647, .iaload, 0, 0, 0, []), (648, .aload_n 0, 0, 0, 0, []), (649, .iload_n 3, 0, 0, 0, []), (650, .iconst 5, 0, 0, 0, []), (651, .iadd, 0, 0, 0, []), (652, .iaload, 0, 0, 0, []), (653, .invokevirtual 80, 259, 5, 12, [9041, 9042, 9043, 1015, 9044]), (656, .if_icmp .eq 751, 1407, 0, 0, []), (659, .iconst 0, 0, 0, 0, []), (660, .ireturn, 0, 0, 0, []), (661, .aload_n 1, 0, 0, 0, []), (662, .aload_n 0, 0, 0, 0, []), (663, .iload_n 3, 0, 0, 0, []), (664, .iconst 1, 0, 0, 0, []), (665, .iadd, 0, 0, 0, []), (666, .iaload, 0, 0, 0, []), (667, .aload_n 0, 0, 0, 0, []), (668, .iload_n 3, 0, 0, 0, []), (669, .iconst 2, 0, 0, 0, []), (670, .iadd, 0, 0, 0, []), (671, .iaload, 0, 0, 0, [])],
  [(672, .aload_n 0, 0, 0, 0, []), (673, .iload_n 3, 0, 0, 0, []), (674, .iconst 3, 0, 0, 0, []), (675, .iadd, 0, 0, 0, []), (676, .iaload, 0, 0, 0, []), (677, .invokevirtual 81, 170, 3, 11, [5043, 5044, 5045, 1001, 5046]), (680, .aload_n 2, 0, 0, 0, []), (681, .aload_n 0, 0, 0, 0, []), (682, .iload_n 3, 0, 0, 0, []), (683, .iconst 1, 0, 0, 0, []), (684, .iadd, 0, 0, 0, []), (685, .iaload, 0, 0, 0, []), (686, .aload_n 0, 0, 0, 0, []), (687, .iload_n 3, 0, 0, 0, []), (688, .iconst 2, 0, 0, 0, []), (689, .iadd, 0, 0, 0, []), (690, .iaload, 0, 0, 0, []), (691, .aload_n 0, 0, 0, 0, []), (692, .iload_n 3, 0, 0, 0, []), (693, .iconst 3, 0, 0, 0, []), (694, .iadd, 0, 0, 0, []), (695, .iaload, 0, 0, 0, []), (696, .invokevirtual 85, 260, 3, 12, [9055, 9056, 9057, 1015, 9058]), (699, .if_icmp .eq 708, 1407, 0, 0, []), (702, .iconst 0, 0, 0, 0, []), (703, .ireturn, 0, 0, 0, [])],
  [(704, .aload_n 1, 0, 0, 0, []), (705, .aload_n 0, 0, 0, 0, []), (706, .iload_n 3, 0, 0, 0, []), (707, .iconst 1, 0, 0, 0, []), (708, .iadd, 0, 0, 0, []), (709, .iaload, 0, 0, 0, []), (710, .aload_n 0, 0, 0, 0, []), (711, .iload_n 3, 0, 0, 0, []), (712, .iconst 2, 0, 0, 0, []), (713, .iadd, 0, 0, 0, []), (714, .iaload, 0, 0, 0, []), (715, .invokevirtual 86, 171, 2, 11, [5048, 5049, 5050, 1001, 5051]), (718, .aload_n 2, 0, 0, 0, []), (719, .aload_n 0, 0, 0, 0, []), (720, .iload_n 3, 0, 0, 0, []), (721, .iconst 1, 0, 0, 0, []), (722, .iadd, 0, 0, 0, []), (723, .iaload, 0, 0, 0, []), (724, .aload_n 0, 0, 0, 0, []), (725, .iload_n 3, 0, 0, 0, []), (726, .iconst 2, 0, 0, 0, []), (727, .iadd, 0, 0, 0, []), (728, .iaload, 0, 0, 0, []), (729, .invokevirtual 89, 261, 2, 12, [9059, 9060, 9061, 1015, 9062]), (732, .if_icmp .eq 675, 1407, 0, 0, []), (735, .iconst 0, 0, 0, 0, [])],
  [(736, .ireturn, 0, 0, 0, []), (737, .aload_n 1, 0, 0, 0, []), (738, .aload_n 0, 0, 0, 0, []), (739, .iload_n 3, 0, 0, 0, []), (740, .iconst 1, 0, 0, 0, []), (741, .iadd, 0, 0, 0, []), (742, .iaload, 0, 0, 0, []), (743, .aload_n 0, 0, 0, 0, []), (744, .iload_n 3, 0, 0, 0, []), (745, .iconst 2, 0, 0, 0, []), (746, .iadd, 0, 0, 0, []), (747, .iaload, 0, 0, 0, []), (748, .invokevirtual 90, 172, 2, 11, [5052, 5053, 5054, 1001, 5055]), (751, .aload_n 2, 0, 0, 0, []), (752, .aload_n 0, 0, 0, 0, []), (753, .iload_n 3, 0, 0, 0, []), (754, .iconst 1, 0, 0, 0, []), (755, .iadd, 0, 0, 0, []), (756, .iaload, 0, 0, 0, []), (757, .aload_n 0, 0, 0, 0, []), (758, .iload_n 3, 0, 0, 0, []), (759, .iconst 2, 0, 0, 0, []), (760, .iadd, 0, 0, 0, []), (761, .iaload, 0, 0, 0, []), (762, .invokevirtual 94, 262, 2, 12, [9063, 9064, 9065, 1015, 9066]), (765, .if_icmp .eq 642, 1407, 0, 0, [])],
  [(768, .iconst 0, 0, 0, 0, []), (769, .ireturn, 0, 0, 0, []), (770, .aload_n 1, 0, 0, 0, []), (771, .aload_n 0, 0, 0, 0, []), (772, .iload_n 3, 0, 0, 0, []), (773, .iconst 1, 0, 0, 0, []), (774, .iadd, 0, 0, 0, []), (775, .iaload, 0, 0, 0, []), (776, .aload_n 0, 0, 0, 0, []), (777, .iload_n 3, 0, 0, 0, []), (778, .iconst 2, 0, 0, 0, []), (779, .iadd, 0, 0, 0, []), (780, .iaload, 0, 0, 0, []), (781, .invokevirtual 95, 173, 2, 11, [5061, 5062, 5063, 1001, 5064]), (784, .aload_n 2, 0, 0, 0, []), (785, .aload_n 0, 0, 0, 0, []), (786, .iload_n 3, 0, 0, 0, []), (787, .iconst 1, 0, 0, 0, []), (788, .iadd, 0, 0, 0, []), (789, .iaload, 0, 0, 0, []), (790, .aload_n 0, 0, 0, 0, []), (791, .iload_n 3, 0, 0, 0, []), (792, .iconst 2, 0, 0, 0, []), (793, .iadd, 0, 0, 0, []), (794, .iaload, 0, 0, 0, []), (795, .invokevirtual 98, 263, 2, 12, [9067, 9068, 9069, 1015, 9070]), (798, .if_icmp .eq 609, 1407, 0, 0, [])],
  [(801, .iconst 0, 0, 0, 0, []), (802, .ireturn, 0, 0, 0, []), (803, .aload_n 1, 0, 0, 0, []), (804, .aload_n 0, 0, 0, 0, []), (805, .iload_n 3, 0, 0, 0, []), (806, .iconst 1, 0, 0, 0, []), (807, .iadd, 0, 0, 0, []), (808, .iaload, 0, 0, 0, []), (809, .aload_n 0, 0, 0, 0, []), (810, .iload_n 3, 0, 0, 0, []), (811, .iconst 2, 0, 0, 0, []), (812, .iadd, 0, 0, 0, []), (813, .iaload, 0, 0, 0, []), (814, .aload_n 0, 0, 0, 0, []), (815, .iload_n 3, 0, 0, 0, []), (816, .iconst 3, 0, 0, 0, []), (817, .iadd, 0, 0, 0, []), (818, .iaload, 0, 0, 0, []), (819, .invokevirtual 99, 174, 3, 11, [5069, 5070, 5071, 1001, 5072]), (822, .aload_n 2, 0, 0, 0, []), (823, .aload_n 0, 0, 0, 0, []), (824, .iload_n 3, 0, 0, 0, []), (825, .iconst 1, 0, 0, 0, []), (826, .iadd, 0, 0, 0, []), (827, .iaload, 0, 0, 0, []), (828, .aload_n 0, 0, 0, 0, []), (829, .iload_n 3, 0, 0, 0, []), (830, .iconst 2, 0, 0, 0, []), (831, .iadd, 0, 0, 0, [])],
  [(832, .iaload, 0, 0, 0, []), (833, .aload_n 0, 0, 0, 0, []), (834, .iload_n 3, 0, 0, 0, []), (835, .iconst 3, 0, 0, 0, []), (836, .iadd, 0, 0, 0, []), (837, .iaload, 0, 0, 0, []), (838, .invokevirtual 102, 285, 3, 12, [9111, 9112, 9113, 1015, 9114]), (841, .if_icmp .eq 566, 1407, 0, 0, []), (844, .iconst 0, 0, 0, 0, []), (845, .ireturn, 0, 0, 0, []), (846, .aload_n 1, 0, 0, 0, []), (847, .invokevirtual 103, 175, 0, 11, [5215, 5216, 5217, 1001, 5218]), (850, .aload_n 2, 0, 0, 0, []), (851, .invokevirtual 106, 290, 0, 12, [9156, 9157, 9158, 1015, 9159]), (854, .if_icmp .eq 553, 1407, 0, 0, []), (857, .iconst 0, 0, 0, 0, []), (858, .ireturn, 0, 0, 0, []), (859, .aload_n 1, 0, 0, 0, []), (860, .aload_n 0, 0, 0, 0, []), (861, .iload_n 3, 0, 0, 0, []), (862, .iconst 1, 0, 0, 0, []), (863, .iadd, 0, 0, 0, [])],
  [(864, .iaload, 0, 0, 0, []), (865, .invokevirtual 107, 176, 1, 11, [5235, 5236, 5237, 1001, 5238]), (868, .aload_n 2, 0, 0, 0, []), (869, .aload_n 0, 0, 0, 0, []), (870, .iload_n 3, 0, 0, 0, []), (871, .iconst 1, 0, 0, 0, []), (872, .iadd, 0, 0, 0, []), (873, .iaload, 0, 0, 0, []), (874, .invokevirtual 110, 267, 1, 12, [9071, 9072, 9073, 1015, 9074]), (877, .if_icmp .eq 530, 1407, 0, 0, []), (880, .iconst 0, 0, 0, 0, []), (881, .ireturn, 0, 0, 0, []), (882, .aload_n 1, 0, 0, 0, []), (883, .aload_n 0, 0, 0, 0, []), (884, .iload_n 3, 0, 0, 0, []), (885, .iconst 1, 0, 0, 0, []), (886, .iadd, 0, 0, 0, []), (887, .iaload, 0, 0, 0, []), (888, .aload_n 0, 0, 0, 0, []), (889, .iload_n 3, 0, 0, 0, []), (890, .iconst 2, 0, 0, 0, []), (891, .iadd, 0, 0, 0, []), (892, .iaload, 0, 0, 0, []), (893, .invokevirtual 111, 177, 2, 11, [6000, 6001, 6002, 1001, 6003])],
  [(896, .aload_n 2, 0, 0, 0, []), (897, .aload_n 0, 0, 0, 0, []), (898, .iload_n 3, 0, 0, 0, []), (899, .iconst 1, 0, 0, 0, []), (900, .iadd, 0, 0, 0, []), (901, .iaload, 0, 0, 0, []), (902, .aload_n 0, 0, 0, 0, []), (903, .iload_n 3, 0, 0, 0, []), (904, .iconst 2, 0, 0, 0, []), (905, .iadd, 0, 0, 0, []), (906, .iaload, 0, 0, 0, []), (907, .invokevirtual 114, 268, 2, 12, [9079, 9080, 9081, 1015, 9082]), (910, .if_icmp .eq 497, 1407, 0, 0, []), (913, .iconst 0, 0, 0, 0, []), (914, .ireturn, 0, 0, 0, []), (915, .aload_n 1, 0, 0, 0, []), (916, .aload_n 0, 0, 0, 0, []), (917, .iload_n 3, 0, 0, 0, []), (918, .iconst 1, 0, 0, 0, []), (919, .iadd, 0, 0, 0, []), (920, .iaload, 0, 0, 0, []), (921, .aload_n 0, 0, 0, 0, []), (922, .iload_n 3, 0, 0, 0, []), (923, .iconst 2, 0, 0, 0, []), (924, .iadd, 0, 0, 0, []), (925, .iaload, 0, 0, 0, []), (926, .invokevirtual 115, 178, 2, 11, [6005, 6006, 6007, 1001, 6008])],
  [(929, .aload_n 2, 0, 0, 0, []), (930, .aload_n 0, 0, 0, 0, []), (931, .iload_n 3, 0, 0, 0, []), (932, .iconst 1, 0, 0, 0, []), (933, .iadd, 0, 0, 0, []), (934, .iaload, 0, 0, 0, []), (935, .aload_n 0, 0, 0, 0, []), (936, .iload_n 3, 0, 0, 0, []), (937, .iconst 2, 0, 0, 0, []), (938, .iadd, 0, 0, 0, []), (939, .iaload, 0, 0, 0, []), (940, .invokevirtual 118, 292, 2, 12, [9176, 9177, 9178, 1015, 9179]), (943, .if_icmp .eq 464, 1407, 0, 0, []), (946, .iconst 0, 0, 0, 0, []), (947, .ireturn, 0, 0, 0, []), (948, .aload_n 1, 0, 0, 0, []), (949, .aload_n 0, 0, 0, 0, []), (950, .iload_n 3, 0, 0, 0, []), (951, .iconst 1, 0, 0, 0, []), (952, .iadd, 0, 0, 0, []), (953, .iaload, 0, 0, 0, []), (954, .invokevirtual 119, 179, 1, 11, [6018, 6019, 6020, 1001, 6021]), (957, .aload_n 2, 0, 0, 0, []), (958, .aload_n 0, 0, 0, 0, []), (959, .iload_n 3, 0, 0, 0, [])],
  [(960, .iconst 1, 0, 0, 0, []), (961, .iadd, 0, 0, 0, []), (962, .iaload, 0, 0, 0, []), (963, .invokevirtual 122, 281, 1, 12, [9087, 9088, 9089, 1015, 9090]), (966, .if_icmp .eq 441, 1407, 0, 0, []), (969, .iconst 0, 0, 0, 0, []), (970, .ireturn, 0, 0, 0, []), (971, .aload_n 1, 0, 0, 0, []), (972, .aload_n 0, 0, 0, 0, []), (973, .iload_n 3, 0, 0, 0, []), (974, .iconst 1, 0, 0, 0, []), (975, .iadd, 0, 0, 0, []), (976, .iaload, 0, 0, 0, []), (977, .invokevirtual 123, 180, 1, 11, [6026, 6027, 6028, 1001, 6029]), (980, .aload_n 2, 0, 0, 0, []), (981, .aload_n 0, 0, 0, 0, []), (982, .iload_n 3, 0, 0, 0, []), (983, .iconst 1, 0, 0, 0, []), (984, .iadd, 0, 0, 0, []), (985, .iaload, 0, 0, 0, []), (986, .invokevirtual 126, 293, 1, 12, [9184, 9185, 9186, 1015, 9187]), (989, .if_icmp .eq 418, 1407, 0, 0, [])],
  [(992, .iconst 0, 0, 0, 0, []), (993, .ireturn, 0, 0, 0, []), (994, .aload_n 1, 0, 0, 0, []), (995, .aload_n 0, 0, 0, 0, []), (996, .iload_n 3, 0, 0, 0, []), (997, .iconst 1, 0, 0, 0, []), (998, .iadd, 0, 0, 0, []), (999, .iaload, 0, 0, 0, []), (1000, .aload_n 0, 0, 0, 0, []), (1001, .iload_n 3, 0, 0, 0, []), (1002, .iconst 2, 0, 0, 0, []), (1003, .iadd, 0, 0, 0, []), (1004, .iaload, 0, 0, 0, []), (1005, .aload_n 0, 0, 0, 0, []), (1006, .iload_n 3, 0, 0, 0, []), (1007, .iconst 3, 0, 0, 0, []), (1008, .iadd, 0, 0, 0, []), (1009, .iaload, 0, 0, 0, []), (1010, .invokevirtual 127, 181, 3, 11, [6030, 6031, 6032, 1001, 6033]), (1013, .aload_n 2, 0, 0, 0, []), (1014, .aload_n 0, 0, 0, 0, []), (1015, .iload_n 3, 0, 0, 0, []), (1016, .iconst 1, 0, 0, 0, []), (1017, .iadd, 0, 0, 0, []), (1018, .iaload, 0, 0, 0, []), (1019, .aload_n 0, 0, 0, 0, []), (1020, .iload_n 3, 0, 0, 0, []), (1021, .iconst 2, 0, 0, 0, []), (1022, .iadd, 0, 0, 0, []), (1023, .iaload, 0, 0, 0, [])],
  [(1024, .aload_n 0, 0, 0, 0, []), (1025, .iload_n 3, 0, 0, 0, []), (1026, .iconst 3, 0, 0, 0, []), (1027, .iadd, 0, 0, 0, []), (1028, .iaload, 0, 0, 0, []), (1029, .invokevirtual 130, 295, 3, 12, [9188, 9189, 9190, 1015, 9191]), (1032, .if_icmp .eq 375, 1407, 0, 0, []), (1035, .iconst 0, 0, 0, 0, []), (1036, .ireturn, 0, 0, 0, []), (1037, .aload_n 1, 0, 0, 0, []), (1038, .aload_n 0, 0, 0, 0, []), (1039, .iload_n 3, 0, 0, 0, []), (1040, .iconst 1, 0, 0, 0, []), (1041, .iadd, 0, 0, 0, []), (1042, .iaload, 0, 0, 0, []), (1043, .aload_n 0, 0, 0, 0, []), (1044, .iload_n 3, 0, 0, 0, []), (1045, .iconst 2, 0, 0, 0, []), (1046, .iadd, 0, 0, 0, []), (1047, .iaload, 0, 0, 0, []), (1048, .aload_n 0, 0, 0, 0, []), (1049, .iload_n 3, 0, 0, 0, []), (1050, .iconst 3, 0, 0, 0, []), (1051, .iadd, 0, 0, 0, []), (1052, .iaload, 0, 0, 0, []), (1053, .invokevirtual 131, 182, 3, 11, [6040, 6041, 6042, 1001, 6043])],
  [(1056, .aload_n 2, 0, 0, 0, []), (1057, .aload_n 0, 0, 0, 0, []), (1058, .iload_n 3, 0, 0, 0, []), (1059, .iconst 1, 0, 0, 0, []), (1060, .iadd, 0, 0, 0, []), (1061, .iaload, 0, 0, 0, []), (1062, .aload_n 0, 0, 0, 0, []), (1063, .iload_n 3, 0, 0, 0, []), (1064, .iconst 2, 0, 0, 0, []), (1065, .iadd, 0, 0, 0, []), (1066, .iaload, 0, 0, 0, []), (1067, .aload_n 0, 0, 0, 0, []), (1068, .iload_n 3, 0, 0, 0, []), (1069, .iconst 3, 0, 0, 0, []), (1070, .iadd, 0, 0, 0, []), (1071, .iaload, 0, 0, 0, []), (1072, .invokevirtual 134, 298, 3, 12, [9196, 9197, 9198, 1015, 9199]), (1075, .if_icmp .eq 332, 1407, 0, 0, []), (1078, .iconst 0, 0, 0, 0, []), (1079, .ireturn, 0, 0, 0, []), (1080, .aload_n 1, 0, 0, 0, []), (1081, .aload_n 0, 0, 0, 0, []), (1082, .iload_n 3, 0, 0, 0, []), (1083, .iconst 1, 0, 0, 0, []), (1084, .iadd, 0, 0, 0, []), (1085, .iaload, 0, 0, 0, []), (1086, .aload_n 0, 0, 0, 0, []), (1087, .iload_n 3, 0, 0, 0, [])],
  [(1088, .iconst 2, 0, 0, 0, []), (1089, .iadd, 0, 0, 0, []), (1090, .iaload, 0, 0, 0, []), (1091, .aload_n 0, 0, 0, 0, []), (1092, .iload_n 3, 0, 0, 0, []), (1093, .iconst 3, 0, 0, 0, []), (1094, .iadd, 0, 0, 0, []), (1095, .iaload, 0, 0, 0, []), (1096, .invokevirtual 135, 183, 3, 11, [6074, 6075, 6076, 1001, 6077]), (1099, .aload_n 2, 0, 0, 0, []), (1100, .aload_n 0, 0, 0, 0, []), (1101, .iload_n 3, 0, 0, 0, []), (1102, .iconst 1, 0, 0, 0, []), (1103, .iadd, 0, 0, 0, []), (1104, .iaload, 0, 0, 0, []), (1105, .aload_n 0, 0, 0, 0, []), (1106, .iload_n 3, 0, 0, 0, []), (1107, .iconst 2, 0, 0, 0, []), (1108, .iadd, 0, 0, 0, []), (1109, .iaload, 0, 0, 0, []), (1110, .aload_n 0, 0, 0, 0, []), (1111, .iload_n 3, 0, 0, 0, []), (1112, .iconst 3, 0, 0, 0, []), (1113, .iadd, 0, 0, 0, []), (1114, .iaload, 0, 0, 0, []), (1115, .invokevirtual 138, 299, 3, 12, [9208, 9209, 9210, 1015, 9211]), (1118, .if_icmp .eq 289, 1407, 0, 0, [])],
  [(1121, .iconst 0, 0, 0, 0, []), (1122, .ireturn, 0, 0, 0, []), (1123, .aload_n 1, 0, 0, 0, []), (1124, .aload_n 0, 0, 0, 0, []), (1125, .iload_n 3, 0, 0, 0, []), (1126, .iconst 1, 0, 0, 0, []), (1127, .iadd, 0, 0, 0, []), (1128, .iaload, 0, 0, 0, []), (1129, .aload_n 0, 0, 0, 0, []), (1130, .iload_n 3, 0, 0, 0, []), (1131, .iconst 2, 0, 0, 0, []), (1132, .iadd, 0, 0, 0, []), (1133, .iaload, 0, 0, 0, []), (1134, .invokevirtual 139, 184, 2, 11, [6082, 6083, 6084, 1001, 6085]), (1137, .aload_n 2, 0, 0, 0, []), (1138, .aload_n 0, 0, 0, 0, []), (1139, .iload_n 3, 0, 0, 0, []), (1140, .iconst 1, 0, 0, 0, []), (1141, .iadd, 0, 0, 0, []), (1142, .iaload, 0, 0, 0, []), (1143, .aload_n 0, 0, 0, 0, []), (1144, .iload_n 3, 0, 0, 0, []), (1145, .iconst 2, 0, 0, 0, []), (1146, .iadd, 0, 0, 0, []), (1147, .iaload, 0, 0, 0, []), (1148, .invokevirtual 142, 300, 2, 12, [9212, 9213, 9214, 1015, 9215]), (1151, .if_icmp .eq 256, 1407, 0, 0, [])],
  [(1154, .iconst 0, 0, 0, 0, []), (1155, .ireturn, 0, 0, 0, []), (1156, .aload_n 1, 0, 0, 0, []), (1157, .aload_n 0, 0, 0, 0, []), (1158, .iload_n 3, 0, 0, 0, []), (1159, .iconst 1, 0, 0, 0, []), (1160, .iadd, 0, 0, 0, []), (1161, .iaload, 0, 0, 0, []), (1162, .aload_n 0, 0, 0, 0, []), (1163, .iload_n 3, 0, 0, 0, []), (1164, .iconst 2, 0, 0, 0, []), (1165, .iadd, 0, 0, 0, []), (1166, .iaload, 0, 0, 0, []), (1167, .invokevirtual 143, 185, 2, 11, [6096, 6097, 6098, 1001, 6099]), (1170, .aload_n 2, 0, 0, 0, []), (1171, .aload_n 0, 0, 0, 0, []), (1172, .iload_n 3, 0, 0, 0, []), (1173, .iconst 1, 0, 0, 0, []), (1174, .iadd, 0, 0, 0, []), (1175, .iaload, 0, 0, 0, []), (1176, .aload_n 0, 0, 0, 0, []), (1177, .iload_n 3, 0, 0, 0, []), (1178, .iconst 2, 0, 0, 0, []), (1179, .iadd, 0, 0, 0, []), (1180, .iaload, 0, 0, 0, []), (1181, .invokevirtual 146, 302, 2, 12, [9216, 9217, 9218, 1015, 9219])],
  [(1184, .if_icmp .eq 223, 1407, 0, 0, []), (1187, .iconst 0, 0, 0, 0, []), (1188, .ireturn, 0, 0, 0, []), (1189, .aload_n 1, 0, 0, 0, []), (1190, .aload_n 0, 0, 0, 0, []), (1191, .iload_n 3, 0, 0, 0, []), (1192, .iconst 1, 0, 0, 0, []), (1193, .iadd, 0, 0, 0, []), (1194, .iaload, 0, 0, 0, []), (1195, .invokevirtual 147, 186, 1, 11, [6112, 6113, 6114, 1001, 6115]), (1198, .aload_n 2, 0, 0, 0, []), (1199, .aload_n 0, 0, 0, 0, []), (1200, .iload_n 3, 0, 0, 0, []), (1201, .iconst 1, 0, 0, 0, []), (1202, .iadd, 0, 0, 0, []), (1203, .iaload, 0, 0, 0, []), (1204, .invokevirtual 150, 304, 1, 12, [9225, 9226, 9227, 1015, 9228]), (1207, .if_icmp .eq 200, 1407, 0, 0, []), (1210, .iconst 0, 0, 0, 0, []), (1211, .ireturn, 0, 0, 0, []), (1212, .aload_n 1, 0, 0, 0, []), (1213, .aload_n 0, 0, 0, 0, []), (1214, .iload_n 3, 0, 0, 0, []), (1215, .iconst 1, 0, 0, 0, [])],
  [(1216, .iadd, 0, 0, 0, []), (1217, .iaload, 0, 0, 0, []), (1218, .invokevirtual 151, 187, 1, 11, [6149, 6150, 6151, 1001, 6152]), (1221, .aload_n 2, 0, 0, 0, []), (1222, .aload_n 0, 0, 0, 0, []), (1223, .iload_n 3, 0, 0, 0, []), (1224, .iconst 1, 0, 0, 0, []), (1225, .iadd, 0, 0, 0, []), (1226, .iaload, 0, 0, 0, []), (1227, .invokevirtual 154, 305, 1, 12, [9232, 9233, 9234, 1015, 9235]), (1230, .if_icmp .eq 177, 1407, 0, 0, []), (1233, .iconst 0, 0, 0, 0, []), (1234, .ireturn, 0, 0, 0, []), (1235, .aload_n 1, 0, 0, 0, []), (1236, .aload_n 0, 0, 0, 0, []), (1237, .iload_n 3, 0, 0, 0, []), (1238, .iconst 1, 0, 0, 0, []), (1239, .iadd, 0, 0, 0, []), (1240, .iaload, 0, 0, 0, []), (1241, .aload_n 0, 0, 0, 0, []), (1242, .iload_n 3, 0, 0, 0, []), (1243, .iconst 2, 0, 0, 0, []), (1244, .iadd, 0, 0, 0, []), (1245, .iaload, 0, 0, 0, []), (1246, .aload_n 0, 0, 0, 0, []), (1247, .iload_n 3, 0, 0, 0, [])],
  [(1248, .iconst 3, 0, 0, 0, []), (1249, .iadd, 0, 0, 0, []), (1250, .iaload, 0, 0, 0, []), (1251, .aload_n 0, 0, 0, 0, []), (1252, .iload_n 3, 0, 0, 0, []), (1253, .iconst 4, 0, 0, 0, []), (1254, .iadd, 0, 0, 0, []), (1255, .iaload, 0, 0, 0, []), (1256, .invokevirtual 155, 188, 4, 11, [6155, 6156, 6157, 1001, 6158]), (1259, .aload_n 2, 0, 0, 0, []), (1260, .aload_n 0, 0, 0, 0, []), (1261, .iload_n 3, 0, 0, 0, []), (1262, .iconst 1, 0, 0, 0, []), (1263, .iadd, 0, 0, 0, []), (1264, .iaload, 0, 0, 0, []), (1265, .aload_n 0, 0, 0, 0, []), (1266, .iload_n 3, 0, 0, 0, []), (1267, .iconst 2, 0, 0, 0, []), (1268, .iadd, 0, 0, 0, []), (1269, .iaload, 0, 0, 0, []), (1270, .aload_n 0, 0, 0, 0, []), (1271, .iload_n 3, 0, 0, 0, []), (1272, .iconst 3, 0, 0, 0, []), (1273, .iadd, 0, 0, 0, []), (1274, .iaload, 0, 0, 0, []), (1275, .aload_n 0, 0, 0, 0, []), (1276, .iload_n 3, 0, 0, 0, []), (1277, .iconst 4, 0, 0, 0, []), (1278, .iadd, 0, 0, 0, []), (1279, .iaload, 0, 0, 0, [])],
  [(1280, .invokevirtual 158, 309, 4, 12, [9236, 9237, 9238, 1015, 9239]), (1283, .if_icmp .eq 124, 1407, 0, 0, []), (1286, .iconst 0, 0, 0, 0, []), (1287, .ireturn, 0, 0, 0, []), (1288, .aload_n 1, 0, 0, 0, []), (1289, .aload_n 0, 0, 0, 0, []), (1290, .iload_n 3, 0, 0, 0, []), (1291, .iconst 1, 0, 0, 0, []), (1292, .iadd, 0, 0, 0, []), (1293, .iaload, 0, 0, 0, []), (1294, .aload_n 0, 0, 0, 0, []), (1295, .iload_n 3, 0, 0, 0, []), (1296, .iconst 2, 0, 0, 0, []), (1297, .iadd, 0, 0, 0, []), (1298, .iaload, 0, 0, 0, []), (1299, .aload_n 0, 0, 0, 0, []), (1300, .iload_n 3, 0, 0, 0, []), (1301, .iconst 3, 0, 0, 0, []), (1302, .iadd, 0, 0, 0, []), (1303, .iaload, 0, 0, 0, []), (1304, .invokevirtual 159, 189, 3, 11, [6175, 6176, 6177, 1001, 6178]), (1307, .aload_n 2, 0, 0, 0, []), (1308, .aload_n 0, 0, 0, 0, []), (1309, .iload_n 3, 0, 0, 0, []), (1310, .iconst 1, 0, 0, 0, []), (1311, .iadd, 0, 0, 0, [])],
  [(1312, .iaload, 0, 0, 0, []), (1313, .aload_n 0, 0, 0, 0, []), (1314, .iload_n 3, 0, 0, 0, []), (1315, .iconst 2, 0, 0, 0, []), (1316, .iadd, 0, 0, 0, []), (1317, .iaload, 0, 0, 0, []), (1318, .aload_n 0, 0, 0, 0, []), (1319, .iload_n 3, 0, 0, 0, []), (1320, .iconst 3, 0, 0, 0, []), (1321, .iadd, 0, 0, 0, []), (1322, .iaload, 0, 0, 0, []), (1323, .invokevirtual 162, 312, 3, 12, [10012, 10013, 10014, 1015, 10015]), (1326, .if_icmp .eq 81, 1407, 0, 0, []), (1329, .iconst 0, 0, 0, 0, []), (1330, .ireturn, 0, 0, 0, []), (1331, .aload_n 1, 0, 0, 0, []), (1332, .aload_n 0, 0, 0, 0, []), (1333, .iload_n 3, 0, 0, 0, []), (1334, .iconst 1, 0, 0, 0, []), (1335, .iadd, 0, 0, 0, []), (1336, .iaload, 0, 0, 0, []), (1337, .aload_n 0, 0, 0, 0, []), (1338, .iload_n 3, 0, 0, 0, []), (1339, .iconst 2, 0, 0, 0, []), (1340, .iadd, 0, 0, 0, []), (1341, .iaload, 0, 0, 0, []), (1342, .aload_n 0, 0, 0, 0, []), (1343, .iload_n 3, 0, 0, 0, [])],
  [(1344, .iconst 3, 0, 0, 0, []), (1345, .iadd, 0, 0, 0, []), (1346, .iaload, 0, 0, 0, []), (1347, .aload_n 0, 0, 0, 0, []), (1348, .iload_n 3, 0, 0, 0, []), (1349, .iconst 4, 0, 0, 0, []), (1350, .iadd, 0, 0, 0, []), (1351, .iaload, 0, 0, 0, []), (1352, .invokevirtual 163, 190, 4, 11, [6198, 6199, 6200, 1001, 6201]), (1355, .aload_n 2, 0, 0, 0, []), (1356, .aload_n 0, 0, 0, 0, []), (1357, .iload_n 3, 0, 0, 0, []), (1358, .iconst 1, 0, 0, 0, []), (1359, .iadd, 0, 0, 0, []), (1360, .iaload, 0, 0, 0, []), (1361, .aload_n 0, 0, 0, 0, []), (1362, .iload_n 3, 0, 0, 0, []), (1363, .iconst 2, 0, 0, 0, []), (1364, .iadd, 0, 0, 0, []), (1365, .iaload, 0, 0, 0, []), (1366, .aload_n 0, 0, 0, 0, []), (1367, .iload_n 3, 0, 0, 0, []), (1368, .iconst 3, 0, 0, 0, []), (1369, .iadd, 0, 0, 0, []), (1370, .iaload, 0, 0, 0, []), (1371, .aload_n 0, 0, 0, 0, []), (1372, .iload_n 3, 0, 0, 0, []), (1373, .iconst 4, 0, 0, 0, []), (1374, .iadd, 0, 0, 0, []), (1375, .iaload, 0, 0, 0, [])],
  [(1376, .invokevirtual 166, 313, 4, 12, [10028, 10029, 10030, 1015, 10031]), (1379, .if_icmp .eq 28, 1407, 0, 0, []), (1382, .iconst 0, 0, 0, 0, []), (1383, .ireturn, 0, 0, 0, []), (1384, .aload_n 1, 0, 0, 0, []), (1385, .aload_n 0, 0, 0, 0, []), (1386, .iload_n 3, 0, 0, 0, []), (1387, .iconst 1, 0, 0, 0, []), (1388, .iadd, 0, 0, 0, []), (1389, .iaload, 0, 0, 0, []), (1390, .invokevirtual 167, 191, 1, 11, [7002, 7003, 7004, 1001, 7005]), (1393, .aload_n 2, 0, 0, 0, []), (1394, .aload_n 0, 0, 0, 0, []), (1395, .iload_n 3, 0, 0, 0, []), (1396, .iconst 1, 0, 0, 0, []), (1397, .iadd, 0, 0, 0, []), (1398, .iaload, 0, 0, 0, []), (1399, .invokevirtual 170, 314, 1, 12, [10041, 10042, 10043, 1015, 10044]), (1402, .if_icmp .eq 5, 1407, 0, 0, []), (1405, .iconst 0, 0, 0, 0, []), (1406, .ireturn, 0, 0, 0, []), (1407, .iinc 3 6, 0, 0, 0, [])],
  [(1410, .goto (-1392), 18, 0, 0, []), (1413, .iconst 1, 0, 0, 0, []), (1414, .ireturn, 0, 0, 0, [])]]
def gP1 : List (List gE) := [
  [(0, .aload_n 0, 0, 0, 0, []), (1, .invokespecial 3, 9999, 0, 0, [1107, 1027, 1028]), (4, .aload_n 0, 0, 0, 0, []), (5, .bipush 20, 0, 0, 0, []), (7, .anewarray 9, 5, 0, 0, [1108, 1109]), (10, .putfield 11, 0, 0, 0, [1110]), (13, .aload_n 0, 0, 0, 0, []), (14, .iconst 0, 0, 0, 0, []), (15, .putfield 17, 0, 1, 0, [1111]), (18, .aload_n 0, 0, 0, 0, []), (19, .iconst 0, 0, 0, 0, []), (20, .putfield 21, 0, 2, 0, [1113]), (23, .aload_n 0, 0, 0, 0, []), (24, .bipush 8, 0, 0, 0, []), (26, .newarray .int, 0, 0, 0, [1076]), (28, .putfield 24, 0, 3, 0, [1115]), (31, .aload_n 0, 0, 0, 0, [])],
  [(32, .bipush 8, 0, 0, 0, []), (34, .newarray .int, 0, 0, 0, [1076]), (36, .putfield 28, 0, 4, 0, [1116]), (39, .aload_n 0, 0, 0, 0, []), (40, .bipush 8, 0, 0, 0, []), (42, .newarray .int, 0, 0, 0, [1076]), (44, .putfield 31, 0, 5, 0, [1117]), (47, .aload_n 0, 0, 0, 0, []), (48, .bipush 20, 0, 0, 0, []), (50, .newarray .int, 0, 0, 0, [1076]), (52, .putfield 34, 0, 6, 0, [1118]), (55, .aload_n 0, 0, 0, 0, []), (56, .bipush 20, 0, 0, 0, []), (58, .newarray .int, 0, 0, 0, [1076]), (60, .putfield 37, 0, 7, 0, [1119]), (63, .return_, 0, 0, 0, [])]]
def gP2 : List (List gE) := [
  [(0, .iload_n 1, 0, 0, 0, []), (1, .ifCond .lt 20, 21, 0, 0, []), (4, .iload_n 1, 0, 0, 0, []), (5, .aload_n 0, 0, 0, 0, []), (6, .getfield 17, 0, 1, 0, [1111]), (9, .if_icmp .ge 12, 21, 0, 0, []), (12, .iload_n 1, 0, 0, 0, []), (13, .aload_n 0, 0, 0, 0, []), (14, .getfield 11, 0, 0, 0, [1110]), (17, .arraylength, 0, 0, 0, []), (18, .if_icmp .lt 7, 25, 0, 0, []), (21, .aconst_null, 0, 0, 0, []), (22, .goto 9, 31, 0, 0, []), (25, .aload_n 0, 0, 0, 0, []), (26, .getfield 11, 0, 0, 0, [1110]), (29, .iload_n 1, 0, 0, 0, []), (30, .aaload, 0, 0, 0, []), (31, .areturn, 0, 0, 0, [])]]
def gP3 : List (List gE) := [
  [(0, .aload_n 0, 0, 0, 0, []), (1, .iload_n 1, 0, 0, 0, []), (2, .invokevirtual 40, 2, 1, 0, [5024, 5014, 65, 1004, 5015]), (5, .astore_n 3, 0, 0, 0, []), (6, .aload_n 3, 0, 0, 0, []), (7, .ifnull 11, 18, 0, 0, []), (10, .aload_n 3, 0, 0, 0, []), (11, .getfield 44, 7, 0, 1, [4177]), (14, .iload_n 2, 0, 0, 0, []), (15, .if_icmp .eq 7, 22, 0, 0, []), (18, .aconst_null, 0, 0, 0, []), (19, .goto 4, 23, 0, 0, []), (22, .aload_n 3, 0, 0, 0, []), (23, .areturn, 0, 0, 0, [])]]
def gP4 : List (List gE) := [
  [(0, .aload_n 0, 0, 0, 0, []), (1, .getfield 17, 0, 1, 0, [1111]), (4, .ifCond .lt 15, 19, 0, 0, []), (7, .aload_n 0, 0, 0, 0, []), (8, .getfield 17, 0, 1, 0, [1111]), (11, .aload_n 0, 0, 0, 0, []), (12, .getfield 11, 0, 0, 0, [1110]), (15, .arraylength, 0, 0, 0, []), (16, .if_icmp .lt 5, 21, 0, 0, []), (19, .iconst (-1), 0, 0, 0, []), (20, .ireturn, 0, 0, 0, []), (21, .new 9, 7, 0, 0, [1108, 4170, 1018]), (24, .dup, 0, 0, 0, []), (25, .iload_n 1, 0, 0, 0, []), (26, .iload_n 2, 0, 0, 0, []), (27, .iload_n 3, 0, 0, 0, []), (28, .iload 4, 0, 0, 0, []), (30, .iload 5, 0, 0, 0, [])],
  [(32, .invokespecial 47, 117, 5, 1, [4171, 4172, 1018, 4173]), (35, .astore 6, 0, 0, 0, []), (37, .aload 6, 0, 0, 0, []), (39, .aload_n 0, 0, 0, 0, []), (40, .invokevirtual 50, 5, 0, 0, [5004, 5006, 64, 1004, 5007]), (43, .putfield 54, 7, 8, 1, [4205]), (46, .aload_n 0, 0, 0, 0, []), (47, .getfield 11, 0, 0, 0, [1110]), (50, .aload_n 0, 0, 0, 0, []), (51, .getfield 17, 0, 1, 0, [1111]), (54, .aload 6, 0, 0, 0, []), (56, .aastore, 0, 0, 0, []), (57, .aload_n 0, 0, 0, 0, []), (58, .dup, 0, 0, 0, []), (59, .getfield 17, 0, 1, 0, [1111]), (62, .iconst 1, 0, 0, 0, []), (63, .iadd, 0, 0, 0, [])],
  [(64, .putfield 17, 0, 1, 0, [1111]), (67, .aload_n 0, 0, 0, 0, []), (68, .getfield 17, 0, 1, 0, [1111]), (71, .iconst 1, 0, 0, 0, []), (72, .isub, 0, 0, 0, []), (73, .ireturn, 0, 0, 0, [])]]
def gP5 : List (List gE) := [
  [(0, .aload_n 0, 0, 0, 0, []), (1, .dup, 0, 0, 0, []), (2, .getfield 21, 0, 2, 0, [1113]), (5, .iconst 1, 0, 0, 0, []), (6, .iadd, 0, 0, 0, []), (7, .putfield 21, 0, 2, 0, [1113]), (10, .aload_n 0, 0, 0, 0, []), (11, .getfield 21, 0, 2, 0, [1113]), (14, .ireturn, 0, 0, 0, [])]]
def gP6 : List (List gE) := [
  [(0, .aload_n 0, 0, 0, 0, []), (1, .getfield 24, 0, 3, 0, [1115]), (4, .iload_n 1, 0, 0, 0, []), (5, .iload_n 2, 0, 0, 0, []), (6, .invokestatic 55, 201, 3, 1, [5060, 1084, 1001, 1085]), (9, .aload_n 0, 0, 0, 0, []), (10, .getfield 28, 0, 4, 0, [1116]), (13, .iload_n 1, 0, 0, 0, []), (14, .aload_n 0, 0, 0, 0, []), (15, .invokevirtual 50, 5, 0, 0, [5004, 5006, 64, 1004, 5007]), (18, .invokestatic 55, 201, 3, 1, [5060, 1084, 1001, 1085]), (21, .return_, 0, 0, 0, [])]]
def gP7 : List (List gE) := [
  [(0, .aload_n 0, 0, 0, 0, []), (1, .getfield 31, 0, 5, 0, [1117]), (4, .iload_n 1, 0, 0, 0, []), (5, .iload_n 2, 0, 0, 0, []), (6, .invokestatic 55, 201, 3, 1, [5060, 1084, 1001, 1085]), (9, .return_, 0, 0, 0, [])]]
def gP8 : List (List gE) := [
  [(0, .iload_n 1, 0, 0, 0, []), (1, .iconst (-1), 0, 0, 0, []), (2, .if_icmp .ne 7, 9, 0, 0, []), (5, .iload_n 2, 0, 0, 0, []), (6, .goto 13, 19, 0, 0, []), (9, .aload_n 0, 0, 0, 0, []), (10, .getfield 24, 0, 3, 0, [1115]), (13, .iload_n 1, 0, 0, 0, []), (14, .invokestatic 59, 199, 2, 1, [5102, 3072, 1001, 3073]), (17, .iload_n 2, 0, 0, 0, []), (18, .iadd, 0, 0, 0, []), (19, .ireturn, 0, 0, 0, [])]]
def gP9 : List (List gE) := [
  [(0, .aload_n 1, 0, 0, 0, []), (1, .getfield 44, 7, 0, 1, [4177]), (4, .iconst 5, 0, 0, 0, []), (5, .if_icmp .eq 8, 13, 0, 0, []), (8, .aload_n 1, 0, 0, 0, []), (9, .getfield 63, 7, 6, 1, [4199]), (12, .ireturn, 0, 0, 0, []), (13, .aload_n 0, 0, 0, 0, []), (14, .aload_n 1, 0, 0, 0, []), (15, .getfield 66, 7, 3, 1, [4191]), (18, .invokevirtual 40, 2, 1, 0, [5024, 5014, 65, 1004, 5015]), (21, .astore_n 2, 0, 0, 0, []), (22, .aload_n 2, 0, 0, 0, []), (23, .ifnonnull 7, 30, 0, 0, []), (26, .iconst 0, 0, 0, 0, []), (27, .goto 7, 34, 0, 0, []), (30, .aload_n 2, 0, 0, 0, []), (31, .getfield 63, 7, 6, 1, [4199])],
  [(34, .ireturn, 0, 0, 0, [])]]
def gP10 : List (List gE) := [
  [(0, .aload_n 1, 0, 0, 0, []), (1, .ifnonnull 5, 6, 0, 0, []), (4, .iconst 0, 0, 0, 0, []), (5, .ireturn, 0, 0, 0, []), (6, .aload_n 1, 0, 0, 0, []), (7, .getfield 69, 7, 10, 1, [4211]), (10, .astore_n 2, 0, 0, 0, []), (11, .aload_n 2, 0, 0, 0, []), (12, .ifnull 8, 20, 0, 0, []), (15, .aload_n 2, 0, 0, 0, []), (16, .getfield 73, 6, 3, 1, [4062]), (19, .ireturn, 0, 0, 0, []), (20, .aload_n 1, 0, 0, 0, []), (21, .getfield 66, 7, 3, 1, [4191]), (24, .iconst (-1), 0, 0, 0, []), (25, .if_icmp .ne 7, 32, 0, 0, []), (28, .iconst 0, 0, 0, 0, []), (29, .goto 9, 38, 0, 0, [])],
  [(32, .iconst 1, 0, 0, 0, []), (33, .aload_n 1, 0, 0, 0, []), (34, .getfield 66, 7, 3, 1, [4191]), (37, .ishl, 0, 0, 0, []), (38, .ireturn, 0, 0, 0, [])]]
def gP11 : List (List gE) := [
  [(0, .iconst 0, 0, 0, 0, []), (1, .istore_n 2, 0, 0, 0, []), (2, .iconst 0, 0, 0, 0, []), (3, .istore_n 3, 0, 0, 0, []), (4, .iload_n 3, 0, 0, 0, []), (5, .bipush 20, 0, 0, 0, []), (7, .if_icmp .ge 25, 32, 0, 0, []), (10, .iload_n 1, 0, 0, 0, []), (11, .iload_n 3, 0, 0, 0, []), (12, .iushr, 0, 0, 0, []), (13, .iconst 1, 0, 0, 0, []), (14, .iand, 0, 0, 0, []), (15, .ifCond .eq 11, 26, 0, 0, []), (18, .iload_n 2, 0, 0, 0, []), (19, .aload_n 0, 0, 0, 0, []), (20, .iload_n 3, 0, 0, 0, []), (21, .invokestatic 59, 199, 2, 1, [5102, 3072, 1001, 3073]), (24, .ior, 0, 0, 0, []), (25, .istore_n 2, 0, 0, 0, []), (26, .iinc 3 1, 0, 0, 0, []), (29, .goto (-25), 4, 0, 0, [])],
  [(32, .iload_n 2, 0, 0, 0, []), (33, .ireturn, 0, 0, 0, [])]]
def gP12 : List (List gE) := [
  [(0, .aload_n 0, 0, 0, 0, []), (1, .getfield 34, 0, 6, 0, [1118]), (4, .iconst 0, 0, 0, 0, []), (5, .invokestatic 78, 203, 2, 1, [5089, 5090, 1001, 5091]), (8, .iconst 1, 0, 0, 0, []), (9, .istore_n 1, 0, 0, 0, []), (10, .iconst 0, 0, 0, 0, []), (11, .istore_n 2, 0, 0, 0, []), (12, .iload_n 2, 0, 0, 0, []), (13, .bipush 20, 0, 0, 0, []), (15, .if_icmp .gt 87, 102, 0, 0, []), (18, .iload_n 1, 0, 0, 0, []), (19, .ifCond .eq 83, 102, 0, 0, []), (22, .iconst 0, 0, 0, 0, []), (23, .istore_n 1, 0, 0, 0, []), (24, .iconst 0, 0, 0, 0, []), (25, .istore_n 3, 0, 0, 0, []), (26, .iload_n 3, 0, 0, 0, []), (27, .aload_n 0, 0, 0, 0, []), (28, .getfield 17, 0, 1, 0, [1111]), (31, .if_icmp .ge 65, 96, 0, 0, [])],
  [(34, .aload_n 0, 0, 0, 0, []), (35, .aload_n 0, 0, 0, 0, []), (36, .iload_n 3, 0, 0, 0, []), (37, .invokevirtual 40, 2, 1, 0, [5024, 5014, 65, 1004, 5015]), (40, .invokevirtual 82, 10, 1, 0, [5095, 5097, 74, 1004, 5098]), (43, .istore 4, 0, 0, 0, []), (45, .iload 4, 0, 0, 0, []), (47, .aload_n 0, 0, 0, 0, []), (48, .getfield 34, 0, 6, 0, [1118]), (51, .iload 4, 0, 0, 0, []), (53, .invokestatic 86, 11, 2, 0, [5099, 5100, 1004, 5101]), (56, .ior, 0, 0, 0, []), (57, .istore 5, 0, 0, 0, []), (59, .iload_n 1, 0, 0, 0, []), (60, .iload 5, 0, 0, 0, []), (62, .aload_n 0, 0, 0, 0, []), (63, .getfield 34, 0, 6, 0, [1118])],
  [(66, .iload_n 3, 0, 0, 0, []), (67, .invokestatic 59, 199, 2, 1, [5102, 3072, 1001, 3073]), (70, .if_icmp .eq 7, 77, 0, 0, []), (73, .iconst 1, 0, 0, 0, []), (74, .goto 4, 78, 0, 0, []), (77, .iconst 0, 0, 0, 0, []), (78, .ior, 0, 0, 0, []), (79, .istore_n 1, 0, 0, 0, []), (80, .aload_n 0, 0, 0, 0, []), (81, .getfield 34, 0, 6, 0, [1118]), (84, .iload_n 3, 0, 0, 0, []), (85, .iload 5, 0, 0, 0, []), (87, .invokestatic 55, 201, 3, 1, [5060, 1084, 1001, 1085]), (90, .iinc 3 1, 0, 0, 0, []), (93, .goto (-67), 26, 0, 0, [])],
  [(96, .iinc 2 1, 0, 0, 0, []), (99, .goto (-87), 12, 0, 0, []), (102, .return_, 0, 0, 0, [])]]
def gP13 : List (List gE) := [
  [(0, .aload_n 0, 0, 0, 0, []), (1, .invokevirtual 89, 12, 0, 0, [5085, 5087, 73, 1004, 5088]), (4, .aload_n 0, 0, 0, 0, []), (5, .getfield 34, 0, 6, 0, [1118]), (8, .iload_n 1, 0, 0, 0, []), (9, .invokestatic 59, 199, 2, 1, [5102, 3072, 1001, 3073]), (12, .ireturn, 0, 0, 0, [])]]
def gP14 : List (List gE) := [
  [(0, .aload_n 0, 0, 0, 0, []), (1, .invokevirtual 89, 12, 0, 0, [5085, 5087, 73, 1004, 5088]), (4, .aload_n 1, 0, 0, 0, []), (5, .getfield 73, 6, 3, 1, [4062]), (8, .aload_n 0, 0, 0, 0, []), (9, .getfield 17, 0, 1, 0, [1111]), (12, .iushr, 0, 0, 0, []), (13, .ifCond .ne 7, 20, 0, 0, []), (16, .iconst 1, 0, 0, 0, []), (17, .goto 4, 21, 0, 0, []), (20, .iconst 0, 0, 0, 0, []), (21, .istore_n 3, 0, 0, 0, []), (22, .aload_n 1, 0, 0, 0, []), (23, .getfield 73, 6, 3, 1, [4062]), (26, .aload_n 0, 0, 0, 0, []), (27, .getfield 34, 0, 6, 0, [1118]), (30, .aload_n 1, 0, 0, 0, []), (31, .getfield 73, 6, 3, 1, [4062])],
  [(34, .invokestatic 86, 11, 2, 0, [5099, 5100, 1004, 5101]), (37, .ior, 0, 0, 0, []), (38, .istore 4, 0, 0, 0, []), (40, .iload_n 3, 0, 0, 0, []), (41, .ifCond .eq 16, 57, 0, 0, []), (44, .iload 4, 0, 0, 0, []), (46, .iload_n 2, 0, 0, 0, []), (47, .iushr, 0, 0, 0, []), (48, .iconst 1, 0, 0, 0, []), (49, .iand, 0, 0, 0, []), (50, .ifCond .ne 7, 57, 0, 0, []), (53, .iconst 1, 0, 0, 0, []), (54, .goto 4, 58, 0, 0, []), (57, .iconst 0, 0, 0, 0, []), (58, .ireturn, 0, 0, 0, [])]]
def gP15 : List (List gE) := [
  [(0, .iconst 0, 0, 0, 0, []), (1, .istore 4, 0, 0, 0, []), (3, .iload 4, 0, 0, 0, []), (5, .aload_n 0, 0, 0, 0, []), (6, .getfield 17, 0, 1, 0, [1111]), (9, .if_icmp .ge 45, 54, 0, 0, []), (12, .aload_n 0, 0, 0, 0, []), (13, .iload 4, 0, 0, 0, []), (15, .invokevirtual 40, 2, 1, 0, [5024, 5014, 65, 1004, 5015]), (18, .astore 5, 0, 0, 0, []), (20, .iload_n 3, 0, 0, 0, []), (21, .iload 4, 0, 0, 0, []), (23, .iushr, 0, 0, 0, []), (24, .iconst 1, 0, 0, 0, []), (25, .iand, 0, 0, 0, []), (26, .ifCond .eq 22, 48, 0, 0, []), (29, .aload 5, 0, 0, 0, []), (31, .ifnull 17, 48, 0, 0, [])],
  [(34, .aload 5, 0, 0, 0, []), (36, .getfield 54, 7, 8, 1, [4205]), (39, .aload_n 1, 0, 0, 0, []), (40, .getfield 54, 7, 8, 1, [4205]), (43, .if_icmp .le 5, 48, 0, 0, []), (46, .iconst 1, 0, 0, 0, []), (47, .ireturn, 0, 0, 0, []), (48, .iinc 4 1, 0, 0, 0, []), (51, .goto (-48), 3, 0, 0, []), (54, .iconst 0, 0, 0, 0, []), (55, .istore 4, 0, 0, 0, []), (57, .iload 4, 0, 0, 0, []), (59, .bipush 8, 0, 0, 0, []), (61, .if_icmp .ge 39, 100, 0, 0, [])],
  [(64, .aload_n 2, 0, 0, 0, []), (65, .getfield 92, 6, 4, 1, [4064]), (68, .iload 4, 0, 0, 0, []), (70, .iushr, 0, 0, 0, []), (71, .iconst 1, 0, 0, 0, []), (72, .iand, 0, 0, 0, []), (73, .ifCond .eq 21, 94, 0, 0, []), (76, .aload_n 0, 0, 0, 0, []), (77, .getfield 28, 0, 4, 0, [1116]), (80, .iload 4, 0, 0, 0, []), (82, .invokestatic 59, 199, 2, 1, [5102, 3072, 1001, 3073]), (85, .aload_n 1, 0, 0, 0, []), (86, .getfield 54, 7, 8, 1, [4205]), (89, .if_icmp .le 5, 94, 0, 0, []), (92, .iconst 1, 0, 0, 0, []), (93, .ireturn, 0, 0, 0, []), (94, .iinc 4 1, 0, 0, 0, [])],
  [(97, .goto (-40), 57, 0, 0, []), (100, .iconst 0, 0, 0, 0, []), (101, .ireturn, 0, 0, 0, [])]]
def gP16 : List (List gE) := [
  [(0, .aload_n 0, 0, 0, 0, []), (1, .iload_n 1, 0, 0, 0, []), (2, .invokevirtual 40, 2, 1, 0, [5024, 5014, 65, 1004, 5015]), (5, .astore_n 3, 0, 0, 0, []), (6, .aload_n 3, 0, 0, 0, []), (7, .ifnull 18, 25, 0, 0, []), (10, .aload_n 3, 0, 0, 0, []), (11, .getfield 69, 7, 10, 1, [4211]), (14, .ifnull 11, 25, 0, 0, []), (17, .iload_n 2, 0, 0, 0, []), (18, .iload_n 1, 0, 0, 0, []), (19, .iushr, 0, 0, 0, []), (20, .iconst 1, 0, 0, 0, []), (21, .iand, 0, 0, 0, []), (22, .ifCond .eq 5, 27, 0, 0, []), (25, .iconst 0, 0, 0, 0, []), (26, .ireturn, 0, 0, 0, []), (27, .aload_n 0, 0, 0, 0, []), (28, .getfield 34, 0, 6, 0, [1118]), (31, .iload_n 1, 0, 0, 0, [])],
  [(32, .invokestatic 59, 199, 2, 1, [5102, 3072, 1001, 3073]), (35, .istore 4, 0, 0, 0, []), (37, .iload 4, 0, 0, 0, []), (39, .iload_n 2, 0, 0, 0, []), (40, .iand, 0, 0, 0, []), (41, .ifCond .ne 17, 58, 0, 0, []), (44, .aload_n 0, 0, 0, 0, []), (45, .aload_n 3, 0, 0, 0, []), (46, .aload_n 3, 0, 0, 0, []), (47, .getfield 69, 7, 10, 1, [4211]), (50, .iload 4, 0, 0, 0, []), (52, .invokevirtual 95, 15, 3, 0, [5227, 5229, 97, 1004, 5230]), (55, .ifCond .eq 7, 62, 0, 0, []), (58, .iconst 1, 0, 0, 0, []), (59, .goto 4, 63, 0, 0, []), (62, .iconst 0, 0, 0, 0, []), (63, .ireturn, 0, 0, 0, [])]]
def gP17 : List (List gE) := [
  [(0, .aload_n 0, 0, 0, 0, []), (1, .invokevirtual 89, 12, 0, 0, [5085, 5087, 73, 1004, 5088]), (4, .iconst 0, 0, 0, 0, []), (5, .istore_n 1, 0, 0, 0, []), (6, .iconst (-1), 0, 0, 0, []), (7, .istore_n 2, 0, 0, 0, []), (8, .iconst 0, 0, 0, 0, []), (9, .istore_n 3, 0, 0, 0, []), (10, .iload_n 3, 0, 0, 0, []), (11, .bipush 20, 0, 0, 0, []), (13, .if_icmp .gt 55, 68, 0, 0, []), (16, .iload_n 1, 0, 0, 0, []), (17, .iload_n 2, 0, 0, 0, []), (18, .if_icmp .eq 50, 68, 0, 0, []), (21, .iload_n 1, 0, 0, 0, []), (22, .istore_n 2, 0, 0, 0, []), (23, .iconst 0, 0, 0, 0, []), (24, .istore 4, 0, 0, 0, []), (26, .iload 4, 0, 0, 0, []), (28, .aload_n 0, 0, 0, 0, []), (29, .getfield 17, 0, 1, 0, [1111])],
  [(32, .if_icmp .ge 30, 62, 0, 0, []), (35, .iload_n 1, 0, 0, 0, []), (36, .aload_n 0, 0, 0, 0, []), (37, .iload 4, 0, 0, 0, []), (39, .iload_n 1, 0, 0, 0, []), (40, .invokevirtual 99, 16, 2, 0, [5223, 5225, 96, 1004, 5226]), (43, .ifCond .eq 10, 53, 0, 0, []), (46, .iconst 1, 0, 0, 0, []), (47, .iload 4, 0, 0, 0, []), (49, .ishl, 0, 0, 0, []), (50, .goto 4, 54, 0, 0, []), (53, .iconst 0, 0, 0, 0, []), (54, .ior, 0, 0, 0, []), (55, .istore_n 1, 0, 0, 0, []), (56, .iinc 4 1, 0, 0, 0, []), (59, .goto (-33), 26, 0, 0, []), (62, .iinc 3 1, 0, 0, 0, [])],
  [(65, .goto (-55), 10, 0, 0, []), (68, .iload_n 1, 0, 0, 0, []), (69, .ireturn, 0, 0, 0, [])]]
def gP18 : List (List gE) := [
  [(0, .iconst 0, 0, 0, 0, []), (1, .istore_n 2, 0, 0, 0, []), (2, .iload_n 2, 0, 0, 0, []), (3, .aload_n 0, 0, 0, 0, []), (4, .getfield 17, 0, 1, 0, [1111]), (7, .if_icmp .ge 32, 39, 0, 0, []), (10, .iload_n 1, 0, 0, 0, []), (11, .iload_n 2, 0, 0, 0, []), (12, .iushr, 0, 0, 0, []), (13, .iconst 1, 0, 0, 0, []), (14, .iand, 0, 0, 0, []), (15, .ifCond .eq 18, 33, 0, 0, []), (18, .aload_n 0, 0, 0, 0, []), (19, .getfield 34, 0, 6, 0, [1118]), (22, .iload_n 2, 0, 0, 0, []), (23, .invokestatic 59, 199, 2, 1, [5102, 3072, 1001, 3073]), (26, .iload_n 1, 0, 0, 0, []), (27, .iand, 0, 0, 0, []), (28, .ifCond .ne 5, 33, 0, 0, []), (31, .iload_n 2, 0, 0, 0, [])],
  [(32, .ireturn, 0, 0, 0, []), (33, .iinc 2 1, 0, 0, 0, []), (36, .goto (-34), 2, 0, 0, []), (39, .iconst (-1), 0, 0, 0, []), (40, .ireturn, 0, 0, 0, [])]]
def gP19 : List (List gE) := [
  [(0, .iconst 0, 0, 0, 0, []), (1, .istore_n 2, 0, 0, 0, []), (2, .iconst 0, 0, 0, 0, []), (3, .istore_n 3, 0, 0, 0, []), (4, .iload_n 3, 0, 0, 0, []), (5, .aload_n 0, 0, 0, 0, []), (6, .getfield 17, 0, 1, 0, [1111]), (9, .if_icmp .ge 42, 51, 0, 0, []), (12, .aload_n 0, 0, 0, 0, []), (13, .iload_n 3, 0, 0, 0, []), (14, .invokevirtual 40, 2, 1, 0, [5024, 5014, 65, 1004, 5015]), (17, .astore 4, 0, 0, 0, []), (19, .aload_n 1, 0, 0, 0, []), (20, .getfield 73, 6, 3, 1, [4062]), (23, .iload_n 3, 0, 0, 0, []), (24, .iushr, 0, 0, 0, []), (25, .iconst 1, 0, 0, 0, []), (26, .iand, 0, 0, 0, []), (27, .ifCond .eq 18, 45, 0, 0, []), (30, .aload 4, 0, 0, 0, [])],
  [(32, .ifnull 13, 45, 0, 0, []), (35, .iload_n 2, 0, 0, 0, []), (36, .aload 4, 0, 0, 0, []), (38, .getfield 103, 7, 9, 1, [4208]), (41, .invokestatic 106, 317, 2, 0, [5111, 3102, 1016, 3103]), (44, .istore_n 2, 0, 0, 0, []), (45, .iinc 3 1, 0, 0, 0, []), (48, .goto (-44), 4, 0, 0, []), (51, .iload_n 2, 0, 0, 0, []), (52, .iconst 1, 0, 0, 0, []), (53, .iadd, 0, 0, 0, []), (54, .ireturn, 0, 0, 0, [])]]
def gP20 : List (List gE) := [
  [(0, .aload_n 0, 0, 0, 0, []), (1, .getfield 37, 0, 7, 0, [1119]), (4, .iconst 0, 0, 0, 0, []), (5, .invokestatic 78, 203, 2, 1, [5089, 5090, 1001, 5091]), (8, .iconst 1, 0, 0, 0, []), (9, .istore_n 2, 0, 0, 0, []), (10, .iconst 0, 0, 0, 0, []), (11, .istore_n 3, 0, 0, 0, []), (12, .iload_n 3, 0, 0, 0, []), (13, .bipush 20, 0, 0, 0, []), (15, .if_icmp .gt 78, 93, 0, 0, []), (18, .iload_n 2, 0, 0, 0, []), (19, .ifCond .eq 74, 93, 0, 0, []), (22, .iconst 0, 0, 0, 0, []), (23, .istore_n 2, 0, 0, 0, []), (24, .iconst 0, 0, 0, 0, []), (25, .istore 4, 0, 0, 0, []), (27, .iload 4, 0, 0, 0, []), (29, .aload_n 0, 0, 0, 0, []), (30, .getfield 17, 0, 1, 0, [1111])],
  [(33, .if_icmp .ge 54, 87, 0, 0, []), (36, .aload_n 0, 0, 0, 0, []), (37, .aload_n 0, 0, 0, 0, []), (38, .iload 4, 0, 0, 0, []), (40, .invokevirtual 40, 2, 1, 0, [5024, 5014, 65, 1004, 5015]), (43, .invokevirtual 112, 21, 1, 0, [6013, 6015, 100, 1004, 6016]), (46, .istore 5, 0, 0, 0, []), (48, .iload_n 2, 0, 0, 0, []), (49, .iload 5, 0, 0, 0, []), (51, .aload_n 0, 0, 0, 0, []), (52, .getfield 37, 0, 7, 0, [1119]), (55, .iload 4, 0, 0, 0, []), (57, .invokestatic 59, 199, 2, 1, [5102, 3072, 1001, 3073]), (60, .if_icmp .eq 7, 67, 0, 0, []), (63, .iconst 1, 0, 0, 0, [])],
  [(64, .goto 4, 68, 0, 0, []), (67, .iconst 0, 0, 0, 0, []), (68, .ior, 0, 0, 0, []), (69, .istore_n 2, 0, 0, 0, []), (70, .aload_n 0, 0, 0, 0, []), (71, .getfield 37, 0, 7, 0, [1119]), (74, .iload 4, 0, 0, 0, []), (76, .iload 5, 0, 0, 0, []), (78, .invokestatic 55, 201, 3, 1, [5060, 1084, 1001, 1085]), (81, .iinc 4 1, 0, 0, 0, []), (84, .goto (-57), 27, 0, 0, []), (87, .iinc 3 1, 0, 0, 0, []), (90, .goto (-78), 12, 0, 0, []), (93, .aload_n 0, 0, 0, 0, []), (94, .getfield 37, 0, 7, 0, [1119])],
  [(97, .iload_n 1, 0, 0, 0, []), (98, .invokestatic 59, 199, 2, 1, [5102, 3072, 1001, 3073]), (101, .ireturn, 0, 0, 0, [])]]
def gP21 : List (List gE) := [
  [(0, .aload_n 1, 0, 0, 0, []), (1, .ifnonnull 5, 6, 0, 0, []), (4, .iconst 0, 0, 0, 0, []), (5, .ireturn, 0, 0, 0, []), (6, .iconst 0, 0, 0, 0, []), (7, .istore_n 2, 0, 0, 0, []), (8, .aload_n 1, 0, 0, 0, []), (9, .getfield 69, 7, 10, 1, [4211]), (12, .ifnonnull 7, 19, 0, 0, []), (15, .iconst 0, 0, 0, 0, []), (16, .goto 10, 26, 0, 0, []), (19, .aload_n 1, 0, 0, 0, []), (20, .getfield 69, 7, 10, 1, [4211]), (23, .getfield 73, 6, 3, 1, [4062]), (26, .istore_n 3, 0, 0, 0, []), (27, .iconst 0, 0, 0, 0, []), (28, .istore 4, 0, 0, 0, []), (30, .iload 4, 0, 0, 0, [])],
  [(32, .aload_n 0, 0, 0, 0, []), (33, .getfield 17, 0, 1, 0, [1111]), (36, .if_icmp .ge 32, 68, 0, 0, []), (39, .iload_n 3, 0, 0, 0, []), (40, .iload 4, 0, 0, 0, []), (42, .iushr, 0, 0, 0, []), (43, .iconst 1, 0, 0, 0, []), (44, .iand, 0, 0, 0, []), (45, .ifCond .eq 17, 62, 0, 0, []), (48, .iload_n 2, 0, 0, 0, []), (49, .aload_n 0, 0, 0, 0, []), (50, .getfield 37, 0, 7, 0, [1119]), (53, .iload 4, 0, 0, 0, []), (55, .invokestatic 59, 199, 2, 1, [5102, 3072, 1001, 3073]), (58, .invokestatic 106, 317, 2, 0, [5111, 3102, 1016, 3103]), (61, .istore_n 2, 0, 0, 0, []), (62, .iinc 4 1, 0, 0, 0, [])],
  [(65, .goto (-35), 30, 0, 0, []), (68, .aload_n 0, 0, 0, 0, []), (69, .getfield 31, 0, 5, 0, [1117]), (72, .aload_n 1, 0, 0, 0, []), (73, .getfield 103, 7, 9, 1, [4208]), (76, .bipush 7, 0, 0, 0, []), (78, .invokestatic 115, 319, 2, 0, [6017, 5138, 1016, 5139]), (81, .invokestatic 59, 199, 2, 1, [5102, 3072, 1001, 3073]), (84, .iload_n 2, 0, 0, 0, []), (85, .iadd, 0, 0, 0, []), (86, .ireturn, 0, 0, 0, [])]]
def gP22 : List (List gE) := [
  [(0, .aload_n 0, 0, 0, 0, []), (1, .invokespecial 3, 9999, 0, 0, [1237, 1027, 1028]), (4, .aload_n 0, 0, 0, 0, []), (5, .iconst 0, 0, 0, 0, []), (6, .putfield 11, 1, 0, 0, [1238]), (9, .aload_n 0, 0, 0, 0, []), (10, .iconst 0, 0, 0, 0, []), (11, .putfield 15, 1, 1, 0, [2004]), (14, .aload_n 0, 0, 0, 0, []), (15, .iconst 0, 0, 0, 0, []), (16, .putfield 18, 1, 2, 0, [2006]), (19, .aload_n 0, 0, 0, 0, []), (20, .iconst 0, 0, 0, 0, []), (21, .putfield 21, 1, 3, 0, [2012]), (24, .aload_n 0, 0, 0, 0, []), (25, .iconst (-1), 0, 0, 0, []), (26, .putfield 24, 1, 4, 0, [2017]), (29, .aload_n 0, 0, 0, 0, []), (30, .iconst 0, 0, 0, 0, []), (31, .putfield 27, 1, 5, 0, [2023])],
  [(34, .aload_n 0, 0, 0, 0, []), (35, .iconst (-1), 0, 0, 0, []), (36, .putfield 30, 1, 6, 0, [2028]), (39, .aload_n 0, 0, 0, 0, []), (40, .iconst 0, 0, 0, 0, []), (41, .putfield 33, 1, 7, 0, [2033]), (44, .aload_n 0, 0, 0, 0, []), (45, .iconst 0, 0, 0, 0, []), (46, .putfield 36, 1, 8, 0, [2037]), (49, .aload_n 0, 0, 0, 0, []), (50, .iconst (-1), 0, 0, 0, []), (51, .putfield 39, 1, 9, 0, [2040]), (54, .aload_n 0, 0, 0, 0, []), (55, .bipush 100, 0, 0, 0, []), (57, .putfield 42, 1, 10, 0, [2043]), (60, .aload_n 0, 0, 0, 0, []), (61, .bipush 100, 0, 0, 0, []), (63, .putfield 45, 1, 11, 0, [2047])],
  [(66, .aload_n 0, 0, 0, 0, []), (67, .iconst 1, 0, 0, 0, []), (68, .putfield 48, 1, 12, 0, [2050]), (71, .aload_n 0, 0, 0, 0, []), (72, .iconst 1, 0, 0, 0, []), (73, .putfield 51, 1, 13, 0, [2053]), (76, .aload_n 0, 0, 0, 0, []), (77, .iconst 0, 0, 0, 0, []), (78, .putfield 54, 1, 14, 0, [2056]), (81, .aload_n 0, 0, 0, 0, []), (82, .iconst 0, 0, 0, 0, []), (83, .putfield 57, 1, 15, 0, [2059]), (86, .aload_n 0, 0, 0, 0, []), (87, .iconst 0, 0, 0, 0, []), (88, .putfield 60, 1, 16, 0, [2062]), (91, .aload_n 0, 0, 0, 0, []), (92, .iconst 4, 0, 0, 0, []), (93, .newarray .int, 0, 0, 0, [1076]), (95, .putfield 63, 1, 17, 0, [2065])],
  [(98, .aload_n 0, 0, 0, 0, []), (99, .iconst 0, 0, 0, 0, []), (100, .putfield 67, 1, 18, 0, [2068]), (103, .return_, 0, 0, 0, [])]]
def gP23 : List (List gE) := [
  [(0, .aload_n 0, 0, 0, 0, []), (1, .getfield 11, 1, 0, 0, [1238]), (4, .ifCond .eq 11, 15, 0, 0, []), (7, .aload_n 0, 0, 0, 0, []), (8, .getfield 11, 1, 0, 0, [1238]), (11, .iconst 1, 0, 0, 0, []), (12, .if_icmp .ne 7, 19, 0, 0, []), (15, .iconst 1, 0, 0, 0, []), (16, .goto 4, 20, 0, 0, []), (19, .iconst 0, 0, 0, 0, []), (20, .ireturn, 0, 0, 0, [])]]
def gP24 : List (List gE) := [
  [(0, .aload_n 0, 0, 0, 0, []), (1, .iload_n 1, 0, 0, 0, []), (2, .putfield 11, 1, 0, 0, [1238]), (5, .aload_n 0, 0, 0, 0, []), (6, .iload_n 2, 0, 0, 0, []), (7, .putfield 15, 1, 1, 0, [2004]), (10, .aload_n 0, 0, 0, 0, []), (11, .iconst 0, 0, 0, 0, []), (12, .putfield 18, 1, 2, 0, [2006]), (15, .aload_n 0, 0, 0, 0, []), (16, .iconst 0, 0, 0, 0, []), (17, .putfield 21, 1, 3, 0, [2012]), (20, .aload_n 0, 0, 0, 0, []), (21, .iconst (-1), 0, 0, 0, []), (22, .putfield 24, 1, 4, 0, [2017]), (25, .aload_n 0, 0, 0, 0, []), (26, .iconst 0, 0, 0, 0, []), (27, .putfield 27, 1, 5, 0, [2023]), (30, .aload_n 0, 0, 0, 0, []), (31, .iconst (-1), 0, 0, 0, [])],
  [(32, .putfield 30, 1, 6, 0, [2028]), (35, .aload_n 0, 0, 0, 0, []), (36, .iconst 0, 0, 0, 0, []), (37, .putfield 33, 1, 7, 0, [2033]), (40, .aload_n 0, 0, 0, 0, []), (41, .iconst 0, 0, 0, 0, []), (42, .putfield 36, 1, 8, 0, [2037]), (45, .aload_n 0, 0, 0, 0, []), (46, .iconst (-1), 0, 0, 0, []), (47, .putfield 39, 1, 9, 0, [2040]), (50, .aload_n 0, 0, 0, 0, []), (51, .bipush 100, 0, 0, 0, []), (53, .putfield 42, 1, 10, 0, [2043]), (56, .aload_n 0, 0, 0, 0, []), (57, .bipush 100, 0, 0, 0, []), (59, .putfield 45, 1, 11, 0, [2047]), (62, .aload_n 0, 0, 0, 0, []), (63, .iconst 1, 0, 0, 0, [])],
  [(64, .putfield 48, 1, 12, 0, [2050]), (67, .aload_n 0, 0, 0, 0, []), (68, .iconst 1, 0, 0, 0, []), (69, .putfield 51, 1, 13, 0, [2053]), (72, .aload_n 0, 0, 0, 0, []), (73, .iconst 0, 0, 0, 0, []), (74, .putfield 54, 1, 14, 0, [2056]), (77, .aload_n 0, 0, 0, 0, []), (78, .iconst 0, 0, 0, 0, []), (79, .putfield 57, 1, 15, 0, [2059]), (82, .aload_n 0, 0, 0, 0, []), (83, .iconst 0, 0, 0, 0, []), (84, .putfield 60, 1, 16, 0, [2062]), (87, .aload_n 0, 0, 0, 0, []), (88, .iconst 0, 0, 0, 0, []), (89, .putfield 67, 1, 18, 0, [2068]), (92, .return_, 0, 0, 0, [])]]
def gP25 : List (List gE) := [
  [(0, .aload_n 0, 0, 0, 0, []), (1, .aload_n 1, 0, 0, 0, []), (2, .getfield 11, 1, 0, 0, [1238]), (5, .aload_n 1, 0, 0, 0, []), (6, .getfield 15, 1, 1, 0, [2004]), (9, .invokevirtual 70, 24, 2, 1, [4092, 3155, 20, 1011, 3156]), (12, .aload_n 0, 0, 0, 0, []), (13, .aload_n 1, 0, 0, 0, []), (14, .getfield 18, 1, 2, 0, [2006]), (17, .putfield 18, 1, 2, 0, [2006]), (20, .aload_n 0, 0, 0, 0, []), (21, .aload_n 1, 0, 0, 0, []), (22, .getfield 21, 1, 3, 0, [2012]), (25, .putfield 21, 1, 3, 0, [2012]), (28, .aload_n 0, 0, 0, 0, []), (29, .aload_n 1, 0, 0, 0, []), (30, .getfield 24, 1, 4, 0, [2017])],
  [(33, .putfield 24, 1, 4, 0, [2017]), (36, .aload_n 0, 0, 0, 0, []), (37, .aload_n 1, 0, 0, 0, []), (38, .getfield 27, 1, 5, 0, [2023]), (41, .putfield 27, 1, 5, 0, [2023]), (44, .aload_n 0, 0, 0, 0, []), (45, .aload_n 1, 0, 0, 0, []), (46, .getfield 30, 1, 6, 0, [2028]), (49, .putfield 30, 1, 6, 0, [2028]), (52, .aload_n 0, 0, 0, 0, []), (53, .aload_n 1, 0, 0, 0, []), (54, .getfield 33, 1, 7, 0, [2033]), (57, .putfield 33, 1, 7, 0, [2033]), (60, .aload_n 0, 0, 0, 0, []), (61, .aload_n 1, 0, 0, 0, []), (62, .getfield 36, 1, 8, 0, [2037])],
  [(65, .putfield 36, 1, 8, 0, [2037]), (68, .aload_n 0, 0, 0, 0, []), (69, .aload_n 1, 0, 0, 0, []), (70, .getfield 39, 1, 9, 0, [2040]), (73, .putfield 39, 1, 9, 0, [2040]), (76, .aload_n 0, 0, 0, 0, []), (77, .aload_n 1, 0, 0, 0, []), (78, .getfield 42, 1, 10, 0, [2043]), (81, .putfield 42, 1, 10, 0, [2043]), (84, .aload_n 0, 0, 0, 0, []), (85, .aload_n 1, 0, 0, 0, []), (86, .getfield 45, 1, 11, 0, [2047]), (89, .putfield 45, 1, 11, 0, [2047]), (92, .aload_n 0, 0, 0, 0, []), (93, .aload_n 1, 0, 0, 0, []), (94, .getfield 48, 1, 12, 0, [2050])],
  [(97, .putfield 48, 1, 12, 0, [2050]), (100, .aload_n 0, 0, 0, 0, []), (101, .aload_n 1, 0, 0, 0, []), (102, .getfield 51, 1, 13, 0, [2053]), (105, .putfield 51, 1, 13, 0, [2053]), (108, .aload_n 0, 0, 0, 0, []), (109, .aload_n 1, 0, 0, 0, []), (110, .getfield 54, 1, 14, 0, [2056]), (113, .putfield 54, 1, 14, 0, [2056]), (116, .aload_n 0, 0, 0, 0, []), (117, .aload_n 1, 0, 0, 0, []), (118, .getfield 57, 1, 15, 0, [2059]), (121, .putfield 57, 1, 15, 0, [2059]), (124, .aload_n 0, 0, 0, 0, []), (125, .aload_n 1, 0, 0, 0, []), (126, .getfield 60, 1, 16, 0, [2062])],
  [(129, .putfield 60, 1, 16, 0, [2062]), (132, .aload_n 0, 0, 0, 0, []), (133, .aload_n 1, 0, 0, 0, []), (134, .getfield 67, 1, 18, 0, [2068]), (137, .putfield 67, 1, 18, 0, [2068]), (140, .iconst 0, 0, 0, 0, []), (141, .istore_n 2, 0, 0, 0, []), (142, .iload_n 2, 0, 0, 0, []), (143, .iconst 4, 0, 0, 0, []), (144, .if_icmp .ge 25, 169, 0, 0, []), (147, .aload_n 0, 0, 0, 0, []), (148, .getfield 63, 1, 17, 0, [2065]), (151, .iload_n 2, 0, 0, 0, []), (152, .aload_n 1, 0, 0, 0, []), (153, .getfield 63, 1, 17, 0, [2065]), (156, .iload_n 2, 0, 0, 0, []), (157, .invokestatic 74, 199, 2, 1, [4093, 3072, 1001, 3073])],
  [(160, .invokestatic 78, 201, 3, 1, [4094, 1084, 1001, 1085]), (163, .iinc 2 1, 0, 0, 0, []), (166, .goto (-24), 142, 0, 0, []), (169, .return_, 0, 0, 0, [])]]
def gP26 : List (List gE) := [
  [(0, .aload_n 0, 0, 0, 0, []), (1, .getfield 24, 1, 4, 0, [2017]), (4, .iconst (-1), 0, 0, 0, []), (5, .if_icmp .ne 18, 23, 0, 0, []), (8, .aload_n 0, 0, 0, 0, []), (9, .iload_n 1, 0, 0, 0, []), (10, .putfield 24, 1, 4, 0, [2017]), (13, .aload_n 0, 0, 0, 0, []), (14, .dup, 0, 0, 0, []), (15, .getfield 27, 1, 5, 0, [2023]), (18, .iload_n 2, 0, 0, 0, []), (19, .iadd, 0, 0, 0, []), (20, .putfield 27, 1, 5, 0, [2023]), (23, .aload_n 0, 0, 0, 0, []), (24, .getfield 30, 1, 6, 0, [2028]), (27, .iconst (-1), 0, 0, 0, []), (28, .if_icmp .ne 18, 46, 0, 0, []), (31, .aload_n 0, 0, 0, 0, [])],
  [(32, .iload_n 1, 0, 0, 0, []), (33, .putfield 30, 1, 6, 0, [2028]), (36, .aload_n 0, 0, 0, 0, []), (37, .dup, 0, 0, 0, []), (38, .getfield 33, 1, 7, 0, [2033]), (41, .iload_n 2, 0, 0, 0, []), (42, .iadd, 0, 0, 0, []), (43, .putfield 33, 1, 7, 0, [2033]), (46, .return_, 0, 0, 0, [])]]
def gP27 : List (List gE) := [
  [(0, .aload_n 0, 0, 0, 0, []), (1, .invokespecial 3, 9999, 0, 0, [2165, 1027, 1028]), (4, .aload_n 0, 0, 0, 0, []), (5, .new 9, 10, 0, 0, [2166, 2167, 1013]), (8, .dup, 0, 0, 0, []), (9, .invokespecial 11, 151, 0, 1, [2168, 2169, 1013, 2170]), (12, .putfield 12, 2, 2, 0, [2186]), (15, .aload_n 0, 0, 0, 0, []), (16, .sipush 9600, 0, 0, 0, []), (19, .newarray .int, 0, 0, 0, [1076]), (21, .putfield 18, 2, 3, 0, [2187]), (24, .aload_n 0, 0, 0, 0, []), (25, .sipush 240, 0, 0, 0, []), (28, .newarray .int, 0, 0, 0, [1076]), (30, .putfield 22, 2, 4, 0, [2188])],
  [(33, .aload_n 0, 0, 0, 0, []), (34, .sipush 720, 0, 0, 0, []), (37, .newarray .int, 0, 0, 0, [1076]), (39, .putfield 25, 2, 5, 0, [2189]), (42, .aload_n 0, 0, 0, 0, []), (43, .sipush 720, 0, 0, 0, []), (46, .newarray .long, 1, 0, 0, [1227]), (48, .putfield 28, 2, 6, 0, [2190]), (51, .aload_n 0, 0, 0, 0, []), (52, .sipush 240, 0, 0, 0, []), (55, .newarray .int, 0, 0, 0, [1076]), (57, .putfield 32, 2, 7, 0, [2191]), (60, .aload_n 0, 0, 0, 0, []), (61, .iconst 0, 0, 0, 0, []), (62, .putfield 35, 2, 8, 0, [2192])],
  [(65, .aload_n 0, 0, 0, 0, []), (66, .aload_n 1, 0, 0, 0, []), (67, .putfield 39, 2, 0, 0, [2184]), (70, .aload_n 0, 0, 0, 0, []), (71, .aload_n 2, 0, 0, 0, []), (72, .putfield 43, 2, 1, 0, [2185]), (75, .return_, 0, 0, 0, [])]]
def gP28 : List (List gE) := [
  [(0, .aload_n 0, 0, 0, 0, []), (1, .aload_n 2, 0, 0, 0, []), (2, .invokevirtual 47, 35, 1, 2, [5116, 5118, 78, 1012, 5119]), (5, .aload_n 0, 0, 0, 0, []), (6, .aload_n 2, 0, 0, 0, []), (7, .iconst 0, 0, 0, 0, []), (8, .invokevirtual 51, 43, 2, 2, [5170, 5172, 87, 1012, 5173]), (11, .iconst 4, 0, 0, 0, []), (12, .aload_n 0, 0, 0, 0, []), (13, .getfield 43, 2, 1, 0, [2185]), (16, .iload_n 3, 0, 0, 0, []), (17, .invokevirtual 55, 53, 1, 3, [5120, 4130, 59, 1003, 4131]), (20, .imul, 0, 0, 0, []), (21, .istore 4, 0, 0, 0, []), (23, .iconst 0, 0, 0, 0, []), (24, .istore 5, 0, 0, 0, []), (26, .iload 5, 0, 0, 0, []), (28, .iload 4, 0, 0, 0, []), (30, .if_icmp .ge 59, 89, 0, 0, [])],
  [(33, .aload_n 0, 0, 0, 0, []), (34, .getfield 43, 2, 1, 0, [2185]), (37, .iload_n 3, 0, 0, 0, []), (38, .iload 5, 0, 0, 0, []), (40, .iconst 4, 0, 0, 0, []), (41, .idiv, 0, 0, 0, []), (42, .aload_n 2, 0, 0, 0, []), (43, .getfield 61, 6, 0, 1, [4053]), (46, .invokevirtual 66, 58, 3, 3, [5214, 4160, 62, 1003, 4161]), (49, .istore 6, 0, 0, 0, []), (51, .aload_n 1, 0, 0, 0, []), (52, .iload 5, 0, 0, 0, []), (54, .iload 6, 0, 0, 0, []), (56, .iconst (-1), 0, 0, 0, []), (57, .if_icmp .ne 7, 64, 0, 0, []), (60, .iconst 0, 0, 0, 0, []), (61, .goto 19, 80, 0, 0, [])],
  [(64, .aload_n 0, 0, 0, 0, []), (65, .getfield 32, 2, 7, 0, [2191]), (68, .iconst 4, 0, 0, 0, []), (69, .iload 6, 0, 0, 0, []), (71, .imul, 0, 0, 0, []), (72, .iload 5, 0, 0, 0, []), (74, .iconst 4, 0, 0, 0, []), (75, .irem, 0, 0, 0, []), (76, .iadd, 0, 0, 0, []), (77, .invokestatic 70, 199, 2, 1, [5164, 3072, 1001, 3073]), (80, .invokestatic 74, 201, 3, 1, [5159, 1084, 1001, 1085]), (83, .iinc 5 1, 0, 0, 0, []), (86, .goto (-60), 26, 0, 0, []), (89, .iload 4, 0, 0, 0, []), (91, .ireturn, 0, 0, 0, [])]]
def gP29 : List (List gE) := [
  [(0, .aload_n 0, 0, 0, 0, []), (1, .aload_n 1, 0, 0, 0, []), (2, .invokevirtual 47, 35, 1, 2, [5116, 5118, 78, 1012, 5119]), (5, .bipush 8, 0, 0, 0, []), (7, .aload_n 1, 0, 0, 0, []), (8, .invokestatic 78, 32, 1, 0, [6133, 6134, 1012, 6135]), (11, .invokestatic 82, 319, 2, 0, [6104, 5138, 1016, 5139]), (14, .istore 4, 0, 0, 0, []), (16, .iconst 0, 0, 0, 0, []), (17, .istore 5, 0, 0, 0, []), (19, .iload 5, 0, 0, 0, []), (21, .iload 4, 0, 0, 0, []), (23, .if_icmp .gt 62, 85, 0, 0, []), (26, .iconst 1, 0, 0, 0, []), (27, .iload 4, 0, 0, 0, []), (29, .ishl, 0, 0, 0, []), (30, .iconst 1, 0, 0, 0, []), (31, .isub, 0, 0, 0, [])],
  [(32, .istore 6, 0, 0, 0, []), (34, .iload 6, 0, 0, 0, []), (36, .ifCond .lt 43, 79, 0, 0, []), (39, .iload 6, 0, 0, 0, []), (41, .iload 4, 0, 0, 0, []), (43, .invokestatic 88, 30, 2, 0, [6136, 6137, 1012, 6138]), (46, .istore 7, 0, 0, 0, []), (48, .iload 6, 0, 0, 0, []), (50, .invokestatic 91, 315, 1, 0, [6139, 6140, 1020, 6141]), (53, .iload 5, 0, 0, 0, []), (55, .if_icmp .ne 18, 73, 0, 0, []), (58, .aload_n 0, 0, 0, 0, []), (59, .aload_n 1, 0, 0, 0, []), (60, .iload 7, 0, 0, 0, []), (62, .iload_n 2, 0, 0, 0, []), (63, .iload_n 3, 0, 0, 0, [])],
  [(64, .invokevirtual 96, 31, 4, 2, [6145, 6147, 117, 1012, 6148]), (67, .ifCond .eq 6, 73, 0, 0, []), (70, .iload 7, 0, 0, 0, []), (72, .ireturn, 0, 0, 0, []), (73, .iinc 6 (-1), 0, 0, 0, []), (76, .goto (-42), 34, 0, 0, []), (79, .iinc 5 1, 0, 0, 0, []), (82, .goto (-63), 19, 0, 0, []), (85, .bipush (-2), 0, 0, 0, []), (87, .ireturn, 0, 0, 0, [])]]
def gP30 : List (List gE) := [
  [(0, .iconst 0, 0, 0, 0, []), (1, .istore_n 2, 0, 0, 0, []), (2, .iconst 0, 0, 0, 0, []), (3, .istore_n 3, 0, 0, 0, []), (4, .iload_n 3, 0, 0, 0, []), (5, .iload_n 1, 0, 0, 0, []), (6, .if_icmp .ge 19, 25, 0, 0, []), (9, .iload_n 2, 0, 0, 0, []), (10, .iconst 1, 0, 0, 0, []), (11, .ishl, 0, 0, 0, []), (12, .iload_n 0, 0, 0, 0, []), (13, .iload_n 3, 0, 0, 0, []), (14, .iushr, 0, 0, 0, []), (15, .iconst 1, 0, 0, 0, []), (16, .iand, 0, 0, 0, []), (17, .ior, 0, 0, 0, []), (18, .istore_n 2, 0, 0, 0, []), (19, .iinc 3 1, 0, 0, 0, []), (22, .goto (-18), 4, 0, 0, []), (25, .iload_n 2, 0, 0, 0, []), (26, .ireturn, 0, 0, 0, [])]]
def gP31 : List (List gE) := [
  [(0, .aload_n 0, 0, 0, 0, []), (1, .aload_n 1, 0, 0, 0, []), (2, .iload_n 2, 0, 0, 0, []), (3, .invokevirtual 51, 43, 2, 2, [5170, 5172, 87, 1012, 5173]), (6, .aload_n 0, 0, 0, 0, []), (7, .iload_n 3, 0, 0, 0, []), (8, .invokevirtual 100, 34, 1, 2, [6105, 6107, 112, 1012, 6108]), (11, .iload 4, 0, 0, 0, []), (13, .if_icmp .gt 7, 20, 0, 0, []), (16, .iconst 1, 0, 0, 0, []), (17, .goto 4, 21, 0, 0, []), (20, .iconst 0, 0, 0, 0, []), (21, .ireturn, 0, 0, 0, [])]]
def gP32 : List (List gE) := [
  [(0, .iconst 0, 0, 0, 0, []), (1, .istore_n 1, 0, 0, 0, []), (2, .iconst 0, 0, 0, 0, []), (3, .istore_n 2, 0, 0, 0, []), (4, .iload_n 2, 0, 0, 0, []), (5, .aload_n 0, 0, 0, 0, []), (6, .getfield 103, 6, 2, 1, [4058]), (9, .if_icmp .ge 34, 43, 0, 0, []), (12, .aload_n 0, 0, 0, 0, []), (13, .iload_n 2, 0, 0, 0, []), (14, .invokevirtual 106, 115, 1, 6, [5122, 5124, 79, 1017, 5125]), (17, .astore_n 3, 0, 0, 0, []), (18, .iload_n 1, 0, 0, 0, []), (19, .aload_n 3, 0, 0, 0, []), (20, .ifnull 14, 34, 0, 0, []), (23, .aload_n 3, 0, 0, 0, []), (24, .getfield 110, 1, 0, 1, [2000]), (27, .ifCond .ne 7, 34, 0, 0, []), (30, .iconst 1, 0, 0, 0, []), (31, .goto 4, 35, 0, 0, [])],
  [(34, .iconst 0, 0, 0, 0, []), (35, .iadd, 0, 0, 0, []), (36, .istore_n 1, 0, 0, 0, []), (37, .iinc 2 1, 0, 0, 0, []), (40, .goto (-36), 4, 0, 0, []), (43, .iload_n 1, 0, 0, 0, []), (44, .ireturn, 0, 0, 0, [])]]
def gP33 : List (List gE) := [
  [(0, .aload_n 0, 0, 0, 0, []), (1, .getfield 12, 2, 2, 0, [2186]), (4, .aload_n 0, 0, 0, 0, []), (5, .getfield 39, 2, 0, 0, [2184]), (8, .iload_n 1, 0, 0, 0, []), (9, .invokevirtual 115, 152, 2, 10, [5131, 5133, 81, 1013, 5134]), (12, .aload_n 0, 0, 0, 0, []), (13, .aload_n 0, 0, 0, 0, []), (14, .getfield 12, 2, 2, 0, [2186]), (17, .getfield 119, 10, 2, 1, [2175]), (20, .sipush 240, 0, 0, 0, []), (23, .invokestatic 82, 319, 2, 0, [6104, 5138, 1016, 5139]), (26, .putfield 35, 2, 8, 0, [2192]), (29, .iconst 0, 0, 0, 0, []), (30, .istore_n 3, 0, 0, 0, []), (31, .iload_n 3, 0, 0, 0, [])],
  [(32, .aload_n 0, 0, 0, 0, []), (33, .getfield 35, 2, 8, 0, [2192]), (36, .if_icmp .ge 25, 61, 0, 0, []), (39, .aload_n 0, 0, 0, 0, []), (40, .getfield 32, 2, 7, 0, [2191]), (43, .iload_n 3, 0, 0, 0, []), (44, .aload_n 0, 0, 0, 0, []), (45, .getfield 12, 2, 2, 0, [2186]), (48, .iload_n 3, 0, 0, 0, []), (49, .invokevirtual 122, 153, 1, 10, [5154, 5156, 84, 1013, 5157]), (52, .invokestatic 74, 201, 3, 1, [5159, 1084, 1001, 1085]), (55, .iinc 3 1, 0, 0, 0, []), (58, .goto (-27), 31, 0, 0, []), (61, .aload_n 0, 0, 0, 0, []), (62, .iload_n 2, 0, 0, 0, []), (63, .invokevirtual 100, 34, 1, 2, [6105, 6107, 112, 1012, 6108])],
  [(66, .ireturn, 0, 0, 0, [])]]
def gP34 : List (List gE) := [
  [(0, .iconst 4, 0, 0, 0, []), (1, .iload_n 1, 0, 0, 0, []), (2, .imul, 0, 0, 0, []), (3, .istore_n 2, 0, 0, 0, []), (4, .iconst 0, 0, 0, 0, []), (5, .istore_n 3, 0, 0, 0, []), (6, .iconst 0, 0, 0, 0, []), (7, .istore 4, 0, 0, 0, []), (9, .iconst 0, 0, 0, 0, []), (10, .istore 5, 0, 0, 0, []), (12, .iload 5, 0, 0, 0, []), (14, .aload_n 0, 0, 0, 0, []), (15, .getfield 35, 2, 8, 0, [2192]), (18, .if_icmp .ge 74, 92, 0, 0, []), (21, .iload_n 3, 0, 0, 0, []), (22, .aload_n 0, 0, 0, 0, []), (23, .getfield 32, 2, 7, 0, [2191]), (26, .iload 5, 0, 0, 0, []), (28, .invokestatic 70, 199, 2, 1, [5164, 3072, 1001, 3073]), (31, .invokestatic 125, 316, 1, 0, [6109, 6110, 1016, 6111])],
  [(34, .iadd, 0, 0, 0, []), (35, .istore_n 3, 0, 0, 0, []), (36, .iload 5, 0, 0, 0, []), (38, .iload_n 2, 0, 0, 0, []), (39, .if_icmp .lt 20, 59, 0, 0, []), (42, .iload_n 3, 0, 0, 0, []), (43, .aload_n 0, 0, 0, 0, []), (44, .getfield 32, 2, 7, 0, [2191]), (47, .iload 5, 0, 0, 0, []), (49, .iload_n 2, 0, 0, 0, []), (50, .isub, 0, 0, 0, []), (51, .invokestatic 70, 199, 2, 1, [5164, 3072, 1001, 3073]), (54, .invokestatic 125, 316, 1, 0, [6109, 6110, 1016, 6111]), (57, .isub, 0, 0, 0, []), (58, .istore_n 3, 0, 0, 0, []), (59, .iload 5, 0, 0, 0, []), (61, .iconst 1, 0, 0, 0, []), (62, .iadd, 0, 0, 0, []), (63, .iload_n 2, 0, 0, 0, [])],
  [(64, .if_icmp .lt 22, 86, 0, 0, []), (67, .iload 5, 0, 0, 0, []), (69, .iconst 1, 0, 0, 0, []), (70, .iadd, 0, 0, 0, []), (71, .iload_n 2, 0, 0, 0, []), (72, .isub, 0, 0, 0, []), (73, .iconst 4, 0, 0, 0, []), (74, .irem, 0, 0, 0, []), (75, .ifCond .ne 11, 86, 0, 0, []), (78, .iload 4, 0, 0, 0, []), (80, .iload_n 3, 0, 0, 0, []), (81, .invokestatic 128, 317, 2, 0, [5169, 3102, 1016, 3103]), (84, .istore 4, 0, 0, 0, []), (86, .iinc 5 1, 0, 0, 0, []), (89, .goto (-77), 12, 0, 0, []), (92, .aload_n 0, 0, 0, 0, []), (93, .getfield 35, 2, 8, 0, [2192])],
  [(96, .iload_n 2, 0, 0, 0, []), (97, .if_icmp .ge 7, 104, 0, 0, []), (100, .iload_n 3, 0, 0, 0, []), (101, .goto 5, 106, 0, 0, []), (104, .iload 4, 0, 0, 0, []), (106, .ireturn, 0, 0, 0, [])]]
def gP35 : List (List gE) := [
  [(0, .aload_n 0, 0, 0, 0, []), (1, .iconst 4, 0, 0, 0, []), (2, .aload_n 0, 0, 0, 0, []), (3, .getfield 43, 2, 1, 0, [2185]), (6, .aload_n 1, 0, 0, 0, []), (7, .getfield 61, 6, 0, 1, [4053]), (10, .invokevirtual 55, 53, 1, 3, [5120, 4130, 59, 1003, 4131]), (13, .imul, 0, 0, 0, []), (14, .putfield 35, 2, 8, 0, [2192]), (17, .aload_n 0, 0, 0, 0, []), (18, .getfield 22, 2, 4, 0, [2188]), (21, .iconst 0, 0, 0, 0, []), (22, .invokestatic 131, 203, 2, 1, [5121, 5090, 1001, 5091]), (25, .aload_n 0, 0, 0, 0, []), (26, .getfield 25, 2, 5, 0, [2189]), (29, .bipush 100, 0, 0, 0, []), (31, .invokestatic 131, 203, 2, 1, [5121, 5090, 1001, 5091])],
  [(34, .iconst 0, 0, 0, 0, []), (35, .istore_n 2, 0, 0, 0, []), (36, .iload_n 2, 0, 0, 0, []), (37, .aload_n 1, 0, 0, 0, []), (38, .getfield 103, 6, 2, 1, [4058]), (41, .if_icmp .ge 62, 103, 0, 0, []), (44, .aload_n 1, 0, 0, 0, []), (45, .iload_n 2, 0, 0, 0, []), (46, .invokevirtual 106, 115, 1, 6, [5122, 5124, 79, 1017, 5125]), (49, .astore_n 3, 0, 0, 0, []), (50, .aload_n 3, 0, 0, 0, []), (51, .ifnull 29, 80, 0, 0, []), (54, .aload_n 3, 0, 0, 0, []), (55, .getfield 110, 1, 0, 1, [2000]), (58, .ifCond .ne 22, 80, 0, 0, []), (61, .aload_n 0, 0, 0, 0, []), (62, .aload_n 3, 0, 0, 0, []), (63, .iload_n 2, 0, 0, 0, [])],
  [(64, .aload_n 0, 0, 0, 0, []), (65, .getfield 35, 2, 8, 0, [2192]), (68, .invokevirtual 135, 37, 3, 2, [5126, 5128, 80, 1012, 5129]), (71, .aload_n 0, 0, 0, 0, []), (72, .aload_n 3, 0, 0, 0, []), (73, .iload_n 2, 0, 0, 0, []), (74, .invokevirtual 139, 36, 2, 2, [5160, 5162, 85, 1012, 5163]), (77, .goto 20, 97, 0, 0, []), (80, .aload_n 3, 0, 0, 0, []), (81, .ifnull 16, 97, 0, 0, []), (84, .aload_n 3, 0, 0, 0, []), (85, .getfield 110, 1, 0, 1, [2000]), (88, .iconst 1, 0, 0, 0, []), (89, .if_icmp .ne 8, 97, 0, 0, []), (92, .aload_n 0, 0, 0, 0, []), (93, .aload_n 3, 0, 0, 0, []), (94, .invokevirtual 143, 42, 1, 2, [5165, 5167, 86, 1012, 5168])],
  [(97, .iinc 2 1, 0, 0, 0, []), (100, .goto (-64), 36, 0, 0, []), (103, .return_, 0, 0, 0, [])]]
def gP36 : List (List gE) := [
  [(0, .iconst 0, 0, 0, 0, []), (1, .istore_n 3, 0, 0, 0, []), (2, .iload_n 3, 0, 0, 0, []), (3, .aload_n 0, 0, 0, 0, []), (4, .getfield 35, 2, 8, 0, [2192]), (7, .if_icmp .ge 51, 58, 0, 0, []), (10, .aload_n 0, 0, 0, 0, []), (11, .getfield 18, 2, 3, 0, [2187]), (14, .iload_n 2, 0, 0, 0, []), (15, .sipush 240, 0, 0, 0, []), (18, .imul, 0, 0, 0, []), (19, .iload_n 3, 0, 0, 0, []), (20, .iadd, 0, 0, 0, []), (21, .invokestatic 70, 199, 2, 1, [5164, 3072, 1001, 3073]), (24, .ldc 147, 0, 0, -1000000, [5150]), (26, .if_icmp .eq 26, 52, 0, 0, []), (29, .aload_n 0, 0, 0, 0, []), (30, .getfield 22, 2, 4, 0, [2188])],
  [(33, .iload_n 3, 0, 0, 0, []), (34, .aload_n 0, 0, 0, 0, []), (35, .getfield 22, 2, 4, 0, [2188]), (38, .iload_n 3, 0, 0, 0, []), (39, .invokestatic 70, 199, 2, 1, [5164, 3072, 1001, 3073]), (42, .iconst 1, 0, 0, 0, []), (43, .aload_n 1, 0, 0, 0, []), (44, .getfield 148, 1, 3, 1, [2013]), (47, .ishl, 0, 0, 0, []), (48, .ior, 0, 0, 0, []), (49, .invokestatic 74, 201, 3, 1, [5159, 1084, 1001, 1085]), (52, .iinc 3 1, 0, 0, 0, []), (55, .goto (-53), 2, 0, 0, []), (58, .return_, 0, 0, 0, [])]]
def gP37 : List (List gE) := [
  [(0, .aload_n 0, 0, 0, 0, []), (1, .getfield 39, 2, 0, 0, [2184]), (4, .aload_n 1, 0, 0, 0, []), (5, .getfield 151, 1, 2, 1, [2009]), (8, .invokevirtual 154, 2, 1, 0, [5130, 5014, 65, 1004, 5015]), (11, .astore 4, 0, 0, 0, []), (13, .aload_n 0, 0, 0, 0, []), (14, .getfield 12, 2, 2, 0, [2186]), (17, .aload_n 0, 0, 0, 0, []), (18, .getfield 39, 2, 0, 0, [2184]), (21, .aload_n 1, 0, 0, 0, []), (22, .getfield 151, 1, 2, 1, [2009]), (25, .invokevirtual 115, 152, 2, 10, [5131, 5133, 81, 1013, 5134]), (28, .aload 4, 0, 0, 0, []), (30, .ifnull 16, 46, 0, 0, [])],
  [(33, .aload 4, 0, 0, 0, []), (35, .getfield 160, 7, 0, 1, [4178]), (38, .iconst 1, 0, 0, 0, []), (39, .if_icmp .ne 7, 46, 0, 0, []), (42, .iconst 1, 0, 0, 0, []), (43, .goto 4, 47, 0, 0, []), (46, .iconst 0, 0, 0, 0, []), (47, .istore 5, 0, 0, 0, []), (49, .iconst 4, 0, 0, 0, []), (50, .aload_n 0, 0, 0, 0, []), (51, .getfield 39, 2, 0, 0, [2184]), (54, .aload_n 1, 0, 0, 0, []), (55, .getfield 163, 1, 4, 1, [2019]), (58, .aload_n 1, 0, 0, 0, []), (59, .getfield 166, 1, 5, 1, [2024]), (62, .invokevirtual 169, 8, 2, 0, [5145, 5147, 83, 1004, 5148])],
  [(65, .imul, 0, 0, 0, []), (66, .istore 6, 0, 0, 0, []), (68, .aload_n 1, 0, 0, 0, []), (69, .getfield 172, 1, 9, 1, [2041]), (72, .iconst (-1), 0, 0, 0, []), (73, .if_icmp .ne 8, 81, 0, 0, []), (76, .ldc 175, 0, 0, 1000000, [5149]), (78, .goto 9, 87, 0, 0, []), (81, .iconst 4, 0, 0, 0, []), (82, .aload_n 1, 0, 0, 0, []), (83, .getfield 172, 1, 9, 1, [2041]), (86, .imul, 0, 0, 0, []), (87, .istore 7, 0, 0, 0, []), (89, .iconst 0, 0, 0, 0, []), (90, .istore 8, 0, 0, 0, []), (92, .iload 8, 0, 0, 0, []), (94, .iload_n 3, 0, 0, 0, []), (95, .if_icmp .ge 125, 220, 0, 0, [])],
  [(98, .ldc 147, 0, 0, -1000000, [5150]), (100, .istore 9, 0, 0, 0, []), (102, .iload 8, 0, 0, 0, []), (104, .iload 6, 0, 0, 0, []), (106, .if_icmp .lt 91, 197, 0, 0, []), (109, .iload 8, 0, 0, 0, []), (111, .iload 6, 0, 0, 0, []), (113, .isub, 0, 0, 0, []), (114, .iload 7, 0, 0, 0, []), (116, .if_icmp .ge 81, 197, 0, 0, []), (119, .aload_n 1, 0, 0, 0, []), (120, .getfield 176, 1, 13, 1, [2054]), (123, .ifCond .le 74, 197, 0, 0, []), (126, .iconst 4, 0, 0, 0, []), (127, .aload_n 1, 0, 0, 0, [])],
  [(128, .getfield 179, 1, 8, 1, [2038]), (131, .imul, 0, 0, 0, []), (132, .iload 8, 0, 0, 0, []), (134, .iload 6, 0, 0, 0, []), (136, .isub, 0, 0, 0, []), (137, .aload_n 1, 0, 0, 0, []), (138, .getfield 182, 1, 12, 1, [2051]), (141, .imul, 0, 0, 0, []), (142, .aload_n 1, 0, 0, 0, []), (143, .getfield 176, 1, 13, 1, [2054]), (146, .idiv, 0, 0, 0, []), (147, .iadd, 0, 0, 0, []), (148, .istore 10, 0, 0, 0, []), (150, .iload 5, 0, 0, 0, []), (152, .ifCond .eq 13, 165, 0, 0, []), (155, .aload 4, 0, 0, 0, []), (157, .iload 10, 0, 0, 0, []), (159, .invokestatic 185, 38, 2, 0, [5151, 5152, 1012, 5153])],
  [(162, .goto 5, 167, 0, 0, []), (165, .iload 10, 0, 0, 0, []), (167, .istore 10, 0, 0, 0, []), (169, .iload 10, 0, 0, 0, []), (171, .aload_n 0, 0, 0, 0, []), (172, .getfield 12, 2, 2, 0, [2186]), (175, .getfield 119, 10, 2, 1, [2175]), (178, .if_icmp .ge 15, 193, 0, 0, []), (181, .aload_n 0, 0, 0, 0, []), (182, .getfield 12, 2, 2, 0, [2186]), (185, .iload 10, 0, 0, 0, []), (187, .invokevirtual 122, 153, 1, 10, [5154, 5156, 84, 1013, 5157]), (190, .goto 5, 195, 0, 0, [])],
  [(193, .ldc 147, 0, 0, -1000000, [5150]), (195, .istore 9, 0, 0, 0, []), (197, .aload_n 0, 0, 0, 0, []), (198, .getfield 18, 2, 3, 0, [2187]), (201, .iload_n 2, 0, 0, 0, []), (202, .sipush 240, 0, 0, 0, []), (205, .imul, 0, 0, 0, []), (206, .iload 8, 0, 0, 0, []), (208, .iadd, 0, 0, 0, []), (209, .iload 9, 0, 0, 0, []), (211, .invokestatic 74, 201, 3, 1, [5159, 1084, 1001, 1085]), (214, .iinc 8 1, 0, 0, 0, []), (217, .goto (-125), 92, 0, 0, []), (220, .return_, 0, 0, 0, [])]]
def gP38 : List (List gE) := [
  [(0, .aload_n 0, 0, 0, 0, []), (1, .getfield 189, 7, 2, 1, [4186]), (4, .aload_n 0, 0, 0, 0, []), (5, .getfield 192, 7, 1, 1, [4182]), (8, .isub, 0, 0, 0, []), (9, .istore_n 2, 0, 0, 0, []), (10, .iload_n 1, 0, 0, 0, []), (11, .aload_n 0, 0, 0, 0, []), (12, .getfield 189, 7, 2, 1, [4186]), (15, .if_icmp .lt 7, 22, 0, 0, []), (18, .iload_n 2, 0, 0, 0, []), (19, .ifCond .gt 7, 26, 0, 0, []), (22, .iload_n 1, 0, 0, 0, []), (23, .goto 16, 39, 0, 0, []), (26, .aload_n 0, 0, 0, 0, []), (27, .getfield 192, 7, 1, 1, [4182]), (30, .iload_n 1, 0, 0, 0, []), (31, .aload_n 0, 0, 0, 0, [])],
  [(32, .getfield 192, 7, 1, 1, [4182]), (35, .isub, 0, 0, 0, []), (36, .iload_n 2, 0, 0, 0, []), (37, .irem, 0, 0, 0, []), (38, .iadd, 0, 0, 0, []), (39, .ireturn, 0, 0, 0, [])]]
def gP39 : List (List gE) := [
  [(0, .aload_n 0, 0, 0, 0, []), (1, .getfield 18, 2, 3, 0, [2187]), (4, .iload_n 1, 0, 0, 0, []), (5, .sipush 240, 0, 0, 0, []), (8, .imul, 0, 0, 0, []), (9, .iload_n 2, 0, 0, 0, []), (10, .iadd, 0, 0, 0, []), (11, .invokestatic 70, 199, 2, 1, [5164, 3072, 1001, 3073]), (14, .ireturn, 0, 0, 0, [])]]
def gP40 : List (List gE) := [
  [(0, .aload_n 0, 0, 0, 0, []), (1, .iload_n 1, 0, 0, 0, []), (2, .iload_n 2, 0, 0, 0, []), (3, .invokevirtual 195, 39, 2, 2, [5188, 5190, 91, 1012, 5191]), (6, .ldc 147, 0, 0, -1000000, [5150]), (8, .if_icmp .eq 7, 15, 0, 0, []), (11, .iconst 1, 0, 0, 0, []), (12, .goto 4, 16, 0, 0, []), (15, .iconst 0, 0, 0, 0, []), (16, .ireturn, 0, 0, 0, [])]]
def gP41 : List (List gE) := [
  [(0, .iload_n 0, 0, 0, 0, []), (1, .ldc 147, 0, 0, -1000000, [5150]), (3, .if_icmp .ne 7, 10, 0, 0, []), (6, .iconst 0, 0, 0, 0, []), (7, .goto 9, 16, 0, 0, []), (10, .iload_n 0, 0, 0, 0, []), (11, .iload_n 1, 0, 0, 0, []), (12, .imul, 0, 0, 0, []), (13, .bipush 100, 0, 0, 0, []), (15, .idiv, 0, 0, 0, []), (16, .ireturn, 0, 0, 0, [])]]
def gP42 : List (List gE) := [
  [(0, .iconst 4, 0, 0, 0, []), (1, .aload_n 0, 0, 0, 0, []), (2, .getfield 39, 2, 0, 0, [2184]), (5, .aload_n 1, 0, 0, 0, []), (6, .getfield 163, 1, 4, 1, [2019]), (9, .aload_n 1, 0, 0, 0, []), (10, .getfield 166, 1, 5, 1, [2024]), (13, .invokevirtual 169, 8, 2, 0, [5145, 5147, 83, 1004, 5148]), (16, .imul, 0, 0, 0, []), (17, .istore_n 2, 0, 0, 0, []), (18, .iconst 4, 0, 0, 0, []), (19, .aload_n 0, 0, 0, 0, []), (20, .getfield 39, 2, 0, 0, [2184]), (23, .aload_n 1, 0, 0, 0, []), (24, .getfield 198, 1, 6, 1, [2031]), (27, .aload_n 1, 0, 0, 0, []), (28, .getfield 201, 1, 7, 1, [2035]), (31, .invokevirtual 169, 8, 2, 0, [5145, 5147, 83, 1004, 5148])],
  [(34, .imul, 0, 0, 0, []), (35, .istore_n 3, 0, 0, 0, []), (36, .iload_n 3, 0, 0, 0, []), (37, .iload_n 2, 0, 0, 0, []), (38, .isub, 0, 0, 0, []), (39, .istore 4, 0, 0, 0, []), (41, .iconst 0, 0, 0, 0, []), (42, .iload_n 2, 0, 0, 0, []), (43, .invokestatic 128, 317, 2, 0, [5169, 3102, 1016, 3103]), (46, .istore 5, 0, 0, 0, []), (48, .iload 5, 0, 0, 0, []), (50, .aload_n 0, 0, 0, 0, []), (51, .getfield 35, 2, 8, 0, [2192]), (54, .if_icmp .ge 70, 124, 0, 0, []), (57, .aload_n 1, 0, 0, 0, []), (58, .getfield 204, 1, 11, 1, [2048]), (61, .istore 6, 0, 0, 0, []), (63, .iload 4, 0, 0, 0, [])],
  [(65, .ifCond .le 33, 98, 0, 0, []), (68, .iload 5, 0, 0, 0, []), (70, .iload_n 3, 0, 0, 0, []), (71, .if_icmp .ge 27, 98, 0, 0, []), (74, .aload_n 1, 0, 0, 0, []), (75, .getfield 207, 1, 10, 1, [2045]), (78, .aload_n 1, 0, 0, 0, []), (79, .getfield 204, 1, 11, 1, [2048]), (82, .aload_n 1, 0, 0, 0, []), (83, .getfield 207, 1, 10, 1, [2045]), (86, .isub, 0, 0, 0, []), (87, .iload 5, 0, 0, 0, []), (89, .iload_n 2, 0, 0, 0, []), (90, .isub, 0, 0, 0, []), (91, .imul, 0, 0, 0, []), (92, .iload 4, 0, 0, 0, []), (94, .idiv, 0, 0, 0, []), (95, .iadd, 0, 0, 0, [])],
  [(96, .istore 6, 0, 0, 0, []), (98, .aload_n 0, 0, 0, 0, []), (99, .getfield 25, 2, 5, 0, [2189]), (102, .aload_n 1, 0, 0, 0, []), (103, .getfield 148, 1, 3, 1, [2013]), (106, .sipush 240, 0, 0, 0, []), (109, .imul, 0, 0, 0, []), (110, .iload 5, 0, 0, 0, []), (112, .iadd, 0, 0, 0, []), (113, .iload 6, 0, 0, 0, []), (115, .invokestatic 74, 201, 3, 1, [5159, 1084, 1001, 1085]), (118, .iinc 5 1, 0, 0, 0, []), (121, .goto (-73), 48, 0, 0, []), (124, .return_, 0, 0, 0, [])]]
def gP43 : List (List gE) := [
  [(0, .iconst 0, 0, 0, 0, []), (1, .istore_n 3, 0, 0, 0, []), (2, .iload_n 3, 0, 0, 0, []), (3, .iconst 3, 0, 0, 0, []), (4, .if_icmp .ge 18, 22, 0, 0, []), (7, .aload_n 0, 0, 0, 0, []), (8, .iload_n 3, 0, 0, 0, []), (9, .sipush 240, 0, 0, 0, []), (12, .imul, 0, 0, 0, []), (13, .invokevirtual 210, 44, 1, 2, [5174, 5176, 88, 1012, 5177]), (16, .iinc 3 1, 0, 0, 0, []), (19, .goto (-17), 2, 0, 0, []), (22, .aload_n 0, 0, 0, 0, []), (23, .aload_n 1, 0, 0, 0, []), (24, .iload_n 2, 0, 0, 0, []), (25, .invokevirtual 214, 46, 2, 2, [5179, 5181, 89, 1012, 5182]), (28, .iconst 0, 0, 0, 0, []), (29, .istore_n 3, 0, 0, 0, []), (30, .iload_n 3, 0, 0, 0, []), (31, .iconst 3, 0, 0, 0, [])],
  [(32, .if_icmp .ge 18, 50, 0, 0, []), (35, .aload_n 0, 0, 0, 0, []), (36, .iload_n 3, 0, 0, 0, []), (37, .sipush 240, 0, 0, 0, []), (40, .imul, 0, 0, 0, []), (41, .invokevirtual 217, 45, 1, 2, [5195, 5197, 92, 1012, 5198]), (44, .iinc 3 1, 0, 0, 0, []), (47, .goto (-17), 30, 0, 0, []), (50, .iconst 0, 0, 0, 0, []), (51, .istore_n 3, 0, 0, 0, []), (52, .iload_n 3, 0, 0, 0, []), (53, .aload_n 1, 0, 0, 0, []), (54, .getfield 103, 6, 2, 1, [4058]), (57, .if_icmp .ge 18, 75, 0, 0, []), (60, .aload_n 0, 0, 0, 0, []), (61, .aload_n 1, 0, 0, 0, []), (62, .iload_n 3, 0, 0, 0, []), (63, .invokevirtual 106, 115, 1, 6, [5122, 5124, 79, 1017, 5125])],
  [(66, .invokevirtual 220, 48, 1, 2, [5200, 5202, 93, 1012, 5203]), (69, .iinc 3 1, 0, 0, 0, []), (72, .goto (-20), 52, 0, 0, []), (75, .sipush 9999, 0, 0, 0, []), (78, .istore_n 3, 0, 0, 0, []), (79, .iconst 0, 0, 0, 0, []), (80, .istore 4, 0, 0, 0, []), (82, .iload 4, 0, 0, 0, []), (84, .aload_n 1, 0, 0, 0, []), (85, .getfield 103, 6, 2, 1, [4058]), (88, .if_icmp .ge 47, 135, 0, 0, []), (91, .aload_n 1, 0, 0, 0, []), (92, .iload 4, 0, 0, 0, []), (94, .invokevirtual 106, 115, 1, 6, [5122, 5124, 79, 1017, 5125])],
  [(97, .astore 5, 0, 0, 0, []), (99, .aload_n 0, 0, 0, 0, []), (100, .aload 5, 0, 0, 0, []), (102, .invokevirtual 223, 49, 1, 2, [5204, 5206, 94, 1012, 5207]), (105, .aload 5, 0, 0, 0, []), (107, .ifnull 20, 127, 0, 0, []), (110, .aload 5, 0, 0, 0, []), (112, .getfield 110, 1, 0, 1, [2000]), (115, .iconst 4, 0, 0, 0, []), (116, .if_icmp .ne 11, 127, 0, 0, []), (119, .aload 5, 0, 0, 0, []), (121, .getfield 151, 1, 2, 1, [2009]), (124, .goto 4, 128, 0, 0, []), (127, .iload_n 3, 0, 0, 0, [])],
  [(128, .istore_n 3, 0, 0, 0, []), (129, .iinc 4 1, 0, 0, 0, []), (132, .goto (-50), 82, 0, 0, []), (135, .iconst 0, 0, 0, 0, []), (136, .istore 4, 0, 0, 0, []), (138, .iload 4, 0, 0, 0, []), (140, .aload_n 0, 0, 0, 0, []), (141, .getfield 35, 2, 8, 0, [2192]), (144, .if_icmp .ge 71, 215, 0, 0, []), (147, .aload_n 0, 0, 0, 0, []), (148, .getfield 28, 2, 6, 0, [2190]), (151, .iload 4, 0, 0, 0, []), (153, .invokestatic 226, 200, 2, 1, [5187, 3083, 1001, 3084]), (156, .aload_n 0, 0, 0, 0, []), (157, .getfield 28, 2, 6, 0, [2190])],
  [(160, .sipush 240, 0, 0, 0, []), (163, .iload 4, 0, 0, 0, []), (165, .iadd, 0, 0, 0, []), (166, .invokestatic 226, 200, 2, 1, [5187, 3083, 1001, 3084]), (169, .ladd, 0, 0, 0, []), (170, .aload_n 0, 0, 0, 0, []), (171, .getfield 28, 2, 6, 0, [2190]), (174, .sipush 480, 0, 0, 0, []), (177, .iload 4, 0, 0, 0, []), (179, .iadd, 0, 0, 0, []), (180, .invokestatic 226, 200, 2, 1, [5187, 3083, 1001, 3084]), (183, .ladd, 0, 0, 0, []), (184, .lstore 5, 0, 0, 0, []), (186, .aload_n 0, 0, 0, 0, []), (187, .getfield 32, 2, 7, 0, [2191]), (190, .iload 4, 0, 0, 0, [])],
  [(192, .iload_n 3, 0, 0, 0, []), (193, .ineg, 0, 0, 0, []), (194, .i2l, 0, 0, 0, []), (195, .iload_n 3, 0, 0, 0, []), (196, .i2l, 0, 0, 0, []), (197, .lload 5, 0, 0, 0, []), (199, .invokestatic 229, 320, 2, 0, [5208, 5209, 1016, 5210]), (202, .invokestatic 232, 318, 2, 0, [5211, 5212, 1016, 5213]), (205, .l2i, 0, 0, 0, []), (206, .invokestatic 74, 201, 3, 1, [5159, 1084, 1001, 1085]), (209, .iinc 4 1, 0, 0, 0, []), (212, .goto (-74), 138, 0, 0, []), (215, .return_, 0, 0, 0, [])]]
def gP44 : List (List gE) := [
  [(0, .iconst 0, 0, 0, 0, []), (1, .istore_n 2, 0, 0, 0, []), (2, .iload_n 2, 0, 0, 0, []), (3, .aload_n 0, 0, 0, 0, []), (4, .getfield 35, 2, 8, 0, [2192]), (7, .if_icmp .ge 20, 27, 0, 0, []), (10, .aload_n 0, 0, 0, 0, []), (11, .getfield 28, 2, 6, 0, [2190]), (14, .iload_n 1, 0, 0, 0, []), (15, .iload_n 2, 0, 0, 0, []), (16, .iadd, 0, 0, 0, []), (17, .lconst 0, 0, 0, 0, []), (18, .invokestatic 234, 202, 3, 1, [5178, 1203, 1001, 1204]), (21, .iinc 2 1, 0, 0, 0, []), (24, .goto (-22), 2, 0, 0, []), (27, .return_, 0, 0, 0, [])]]
def gP45 : List (List gE) := [
  [(0, .iconst 0, 0, 0, 0, []), (1, .istore_n 2, 0, 0, 0, []), (2, .iload_n 2, 0, 0, 0, []), (3, .aload_n 0, 0, 0, 0, []), (4, .getfield 35, 2, 8, 0, [2192]), (7, .if_icmp .ge 45, 52, 0, 0, []), (10, .aload_n 0, 0, 0, 0, []), (11, .getfield 28, 2, 6, 0, [2190]), (14, .iload_n 1, 0, 0, 0, []), (15, .iload_n 2, 0, 0, 0, []), (16, .iadd, 0, 0, 0, []), (17, .aload_n 0, 0, 0, 0, []), (18, .getfield 28, 2, 6, 0, [2190]), (21, .iload_n 1, 0, 0, 0, []), (22, .iload_n 2, 0, 0, 0, []), (23, .iadd, 0, 0, 0, []), (24, .invokestatic 226, 200, 2, 1, [5187, 3083, 1001, 3084]), (27, .aload_n 0, 0, 0, 0, []), (28, .getfield 25, 2, 5, 0, [2189]), (31, .iload_n 1, 0, 0, 0, [])],
  [(32, .iload_n 2, 0, 0, 0, []), (33, .iadd, 0, 0, 0, []), (34, .invokestatic 70, 199, 2, 1, [5164, 3072, 1001, 3073]), (37, .i2l, 0, 0, 0, []), (38, .lmul, 0, 0, 0, []), (39, .ldc2_w 237, 0, 0, 100, [5199]), (42, .ldiv, 0, 0, 0, []), (43, .invokestatic 234, 202, 3, 1, [5178, 1203, 1001, 1204]), (46, .iinc 2 1, 0, 0, 0, []), (49, .goto (-47), 2, 0, 0, []), (52, .return_, 0, 0, 0, [])]]
def gP46 : List (List gE) := [
  [(0, .iconst 0, 0, 0, 0, []), (1, .istore_n 3, 0, 0, 0, []), (2, .iconst 0, 0, 0, 0, []), (3, .istore 4, 0, 0, 0, []), (5, .iload 4, 0, 0, 0, []), (7, .aload_n 1, 0, 0, 0, []), (8, .getfield 103, 6, 2, 1, [4058]), (11, .if_icmp .ge 89, 100, 0, 0, []), (14, .aload_n 1, 0, 0, 0, []), (15, .iload 4, 0, 0, 0, []), (17, .invokevirtual 106, 115, 1, 6, [5122, 5124, 79, 1017, 5125]), (20, .astore 5, 0, 0, 0, []), (22, .aload 5, 0, 0, 0, []), (24, .ifnull 70, 94, 0, 0, []), (27, .aload 5, 0, 0, 0, []), (29, .getfield 110, 1, 0, 1, [2000])],
  [(32, .ifCond .ne 62, 94, 0, 0, []), (35, .iload_n 3, 0, 0, 0, []), (36, .bipush 8, 0, 0, 0, []), (38, .if_icmp .ge 15, 53, 0, 0, []), (41, .iload_n 2, 0, 0, 0, []), (42, .iload_n 3, 0, 0, 0, []), (43, .iushr, 0, 0, 0, []), (44, .iconst 1, 0, 0, 0, []), (45, .iand, 0, 0, 0, []), (46, .ifCond .eq 7, 53, 0, 0, []), (49, .iconst 1, 0, 0, 0, []), (50, .goto 4, 54, 0, 0, []), (53, .iconst 0, 0, 0, 0, []), (54, .istore 6, 0, 0, 0, []), (56, .aload_n 0, 0, 0, 0, []), (57, .aload 5, 0, 0, 0, []), (59, .getfield 148, 1, 3, 1, [2013]), (62, .sipush 240, 0, 0, 0, [])],
  [(65, .imul, 0, 0, 0, []), (66, .iload 4, 0, 0, 0, []), (68, .iload 6, 0, 0, 0, []), (70, .ifCond .eq 13, 83, 0, 0, []), (73, .aload 5, 0, 0, 0, []), (75, .getfield 207, 1, 10, 1, [2045]), (78, .iconst 2, 0, 0, 0, []), (79, .idiv, 0, 0, 0, []), (80, .goto 8, 88, 0, 0, []), (83, .aload 5, 0, 0, 0, []), (85, .getfield 207, 1, 10, 1, [2045]), (88, .invokevirtual 239, 47, 3, 2, [5183, 5185, 90, 1012, 5186]), (91, .iinc 3 1, 0, 0, 0, []), (94, .iinc 4 1, 0, 0, 0, [])],
  [(97, .goto (-92), 5, 0, 0, []), (100, .return_, 0, 0, 0, [])]]
def gP47 : List (List gE) := [
  [(0, .iconst 0, 0, 0, 0, []), (1, .istore 4, 0, 0, 0, []), (3, .iload 4, 0, 0, 0, []), (5, .aload_n 0, 0, 0, 0, []), (6, .getfield 35, 2, 8, 0, [2192]), (9, .if_icmp .ge 44, 53, 0, 0, []), (12, .aload_n 0, 0, 0, 0, []), (13, .getfield 28, 2, 6, 0, [2190]), (16, .iload_n 1, 0, 0, 0, []), (17, .iload 4, 0, 0, 0, []), (19, .iadd, 0, 0, 0, []), (20, .aload_n 0, 0, 0, 0, []), (21, .getfield 28, 2, 6, 0, [2190]), (24, .iload_n 1, 0, 0, 0, []), (25, .iload 4, 0, 0, 0, []), (27, .iadd, 0, 0, 0, []), (28, .invokestatic 226, 200, 2, 1, [5187, 3083, 1001, 3084]), (31, .aload_n 0, 0, 0, 0, [])],
  [(32, .iload_n 2, 0, 0, 0, []), (33, .iload 4, 0, 0, 0, []), (35, .invokevirtual 195, 39, 2, 2, [5188, 5190, 91, 1012, 5191]), (38, .iload_n 3, 0, 0, 0, []), (39, .invokestatic 243, 41, 2, 0, [5192, 5193, 1012, 5194]), (42, .i2l, 0, 0, 0, []), (43, .ladd, 0, 0, 0, []), (44, .invokestatic 234, 202, 3, 1, [5178, 1203, 1001, 1204]), (47, .iinc 4 1, 0, 0, 0, []), (50, .goto (-47), 3, 0, 0, []), (53, .return_, 0, 0, 0, [])]]
def gP48 : List (List gE) := [
  [(0, .aload_n 1, 0, 0, 0, []), (1, .ifnull 11, 12, 0, 0, []), (4, .aload_n 1, 0, 0, 0, []), (5, .getfield 110, 1, 0, 1, [2000]), (8, .iconst 2, 0, 0, 0, []), (9, .if_icmp .eq 4, 13, 0, 0, []), (12, .return_, 0, 0, 0, []), (13, .iconst 0, 0, 0, 0, []), (14, .bipush 100, 0, 0, 0, []), (16, .aload_n 1, 0, 0, 0, []), (17, .getfield 246, 1, 15, 1, [2061]), (20, .isub, 0, 0, 0, []), (21, .invokestatic 128, 317, 2, 0, [5169, 3102, 1016, 3103]), (24, .istore_n 2, 0, 0, 0, []), (25, .ldc 147, 0, 0, -1000000, [5150]), (27, .istore_n 3, 0, 0, 0, []), (28, .iconst 0, 0, 0, 0, []), (29, .istore 4, 0, 0, 0, []), (31, .iload 4, 0, 0, 0, [])],
  [(33, .aload_n 0, 0, 0, 0, []), (34, .getfield 35, 2, 8, 0, [2192]), (37, .if_icmp .ge 82, 119, 0, 0, []), (40, .aload_n 0, 0, 0, 0, []), (41, .getfield 22, 2, 4, 0, [2188]), (44, .iload 4, 0, 0, 0, []), (46, .invokestatic 70, 199, 2, 1, [5164, 3072, 1001, 3073]), (49, .aload_n 1, 0, 0, 0, []), (50, .getfield 249, 1, 14, 1, [2058]), (53, .iushr, 0, 0, 0, []), (54, .iconst 1, 0, 0, 0, []), (55, .iand, 0, 0, 0, []), (56, .ifCond .eq 6, 62, 0, 0, []), (59, .iload 4, 0, 0, 0, []), (61, .istore_n 3, 0, 0, 0, []), (62, .iload 4, 0, 0, 0, [])],
  [(64, .iload_n 3, 0, 0, 0, []), (65, .isub, 0, 0, 0, []), (66, .iconst 4, 0, 0, 0, []), (67, .aload_n 1, 0, 0, 0, []), (68, .getfield 252, 1, 16, 1, [2064]), (71, .imul, 0, 0, 0, []), (72, .if_icmp .gt 41, 113, 0, 0, []), (75, .aload_n 1, 0, 0, 0, []), (76, .getfield 148, 1, 3, 1, [2013]), (79, .sipush 240, 0, 0, 0, []), (82, .imul, 0, 0, 0, []), (83, .iload 4, 0, 0, 0, []), (85, .iadd, 0, 0, 0, []), (86, .istore 5, 0, 0, 0, []), (88, .aload_n 0, 0, 0, 0, []), (89, .getfield 28, 2, 6, 0, [2190]), (92, .iload 5, 0, 0, 0, []), (94, .aload_n 0, 0, 0, 0, []), (95, .getfield 28, 2, 6, 0, [2190])],
  [(98, .iload 5, 0, 0, 0, []), (100, .invokestatic 226, 200, 2, 1, [5187, 3083, 1001, 3084]), (103, .iload_n 2, 0, 0, 0, []), (104, .i2l, 0, 0, 0, []), (105, .lmul, 0, 0, 0, []), (106, .ldc2_w 237, 0, 0, 100, [5199]), (109, .ldiv, 0, 0, 0, []), (110, .invokestatic 234, 202, 3, 1, [5178, 1203, 1001, 1204]), (113, .iinc 4 1, 0, 0, 0, []), (116, .goto (-85), 31, 0, 0, []), (119, .return_, 0, 0, 0, [])]]
def gP49 : List (List gE) := [
  [(0, .aload_n 1, 0, 0, 0, []), (1, .ifnull 11, 12, 0, 0, []), (4, .aload_n 1, 0, 0, 0, []), (5, .getfield 110, 1, 0, 1, [2000]), (8, .iconst 3, 0, 0, 0, []), (9, .if_icmp .eq 4, 13, 0, 0, []), (12, .return_, 0, 0, 0, []), (13, .aload_n 0, 0, 0, 0, []), (14, .getfield 35, 2, 8, 0, [2192]), (17, .iconst 1, 0, 0, 0, []), (18, .isub, 0, 0, 0, []), (19, .istore_n 2, 0, 0, 0, []), (20, .iload_n 2, 0, 0, 0, []), (21, .ifCond .lt 91, 112, 0, 0, []), (24, .lconst 0, 0, 0, 0, []), (25, .lstore_n 3, 0, 0, 0, []), (26, .iconst 0, 0, 0, 0, []), (27, .istore 5, 0, 0, 0, []), (29, .iload 5, 0, 0, 0, []), (31, .aload_n 1, 0, 0, 0, [])],
  [(32, .getfield 255, 1, 18, 1, [2070]), (35, .if_icmp .ge 49, 84, 0, 0, []), (38, .iload 5, 0, 0, 0, []), (40, .iload_n 2, 0, 0, 0, []), (41, .if_icmp .gt 43, 84, 0, 0, []), (44, .lload_n 3, 0, 0, 0, []), (45, .aload_n 0, 0, 0, 0, []), (46, .getfield 28, 2, 6, 0, [2190]), (49, .aload_n 1, 0, 0, 0, []), (50, .getfield 148, 1, 3, 1, [2013]), (53, .sipush 240, 0, 0, 0, []), (56, .imul, 0, 0, 0, []), (57, .iload_n 2, 0, 0, 0, []), (58, .iadd, 0, 0, 0, []), (59, .iload 5, 0, 0, 0, []), (61, .isub, 0, 0, 0, []), (62, .invokestatic 226, 200, 2, 1, [5187, 3083, 1001, 3084])],
  [(65, .aload_n 1, 0, 0, 0, []), (66, .getfield 258, 1, 17, 1, [2067]), (69, .iload 5, 0, 0, 0, []), (71, .invokestatic 70, 199, 2, 1, [5164, 3072, 1001, 3073]), (74, .i2l, 0, 0, 0, []), (75, .lmul, 0, 0, 0, []), (76, .ladd, 0, 0, 0, []), (77, .lstore_n 3, 0, 0, 0, []), (78, .iinc 5 1, 0, 0, 0, []), (81, .goto (-52), 29, 0, 0, []), (84, .aload_n 0, 0, 0, 0, []), (85, .getfield 28, 2, 6, 0, [2190]), (88, .aload_n 1, 0, 0, 0, []), (89, .getfield 148, 1, 3, 1, [2013]), (92, .sipush 240, 0, 0, 0, []), (95, .imul, 0, 0, 0, [])],
  [(96, .iload_n 2, 0, 0, 0, []), (97, .iadd, 0, 0, 0, []), (98, .lload_n 3, 0, 0, 0, []), (99, .ldc2_w 237, 0, 0, 100, [5199]), (102, .ldiv, 0, 0, 0, []), (103, .invokestatic 234, 202, 3, 1, [5178, 1203, 1001, 1204]), (106, .iinc 2 (-1), 0, 0, 0, []), (109, .goto (-89), 20, 0, 0, []), (112, .return_, 0, 0, 0, [])]]
def gP50 : List (List gE) := [
  [(0, .aload_n 0, 0, 0, 0, []), (1, .invokespecial 3, 9999, 0, 0, [1082, 1027, 1028]), (4, .aload_n 0, 0, 0, 0, []), (5, .bipush 6, 0, 0, 0, []), (7, .newarray .int, 0, 0, 0, [1076]), (9, .putfield 11, 3, 0, 0, [1086]), (12, .aload_n 0, 0, 0, 0, []), (13, .bipush 6, 0, 0, 0, []), (15, .newarray .int, 0, 0, 0, [1076]), (17, .putfield 15, 3, 1, 0, [1087]), (20, .aload_n 0, 0, 0, 0, []), (21, .sipush 360, 0, 0, 0, []), (24, .newarray .int, 0, 0, 0, [1076]), (26, .putfield 18, 3, 2, 0, [1088]), (29, .aload_n 0, 0, 0, 0, []), (30, .iconst 1, 0, 0, 0, []), (31, .putfield 21, 3, 3, 0, [1089])],
  [(34, .aload_n 0, 0, 0, 0, []), (35, .iconst (-1), 0, 0, 0, []), (36, .putfield 25, 3, 4, 0, [1090]), (39, .aload_n 0, 0, 0, 0, []), (40, .getfield 11, 3, 0, 0, [1086]), (43, .iconst 0, 0, 0, 0, []), (44, .bipush 24, 0, 0, 0, []), (46, .invokestatic 28, 201, 3, 1, [1083, 1084, 1001, 1085]), (49, .return_, 0, 0, 0, [])]]
def gP51 : List (List gE) := [
  [(0, .iload_n 1, 0, 0, 0, []), (1, .ifCond .lt 15, 16, 0, 0, []), (4, .iload_n 1, 0, 0, 0, []), (5, .aload_n 0, 0, 0, 0, []), (6, .getfield 21, 3, 3, 0, [1089]), (9, .if_icmp .ge 7, 16, 0, 0, []), (12, .iconst 1, 0, 0, 0, []), (13, .goto 4, 17, 0, 0, []), (16, .iconst 0, 0, 0, 0, []), (17, .ireturn, 0, 0, 0, [])]]
def gP52 : List (List gE) := [
  [(0, .aload_n 0, 0, 0, 0, []), (1, .getfield 21, 3, 3, 0, [1089]), (4, .iconst 1, 0, 0, 0, []), (5, .isub, 0, 0, 0, []), (6, .ireturn, 0, 0, 0, [])]]
def gP53 : List (List gE) := [
  [(0, .aload_n 0, 0, 0, 0, []), (1, .getfield 11, 3, 0, 0, [1086]), (4, .iload_n 1, 0, 0, 0, []), (5, .invokestatic 32, 199, 2, 1, [4132, 3072, 1001, 3073]), (8, .ireturn, 0, 0, 0, [])]]
def gP54 : List (List gE) := [
  [(0, .aload_n 0, 0, 0, 0, []), (1, .getfield 21, 3, 3, 0, [1089]), (4, .iconst 1, 0, 0, 0, []), (5, .if_icmp .gt 14, 19, 0, 0, []), (8, .iload_n 1, 0, 0, 0, []), (9, .iconst 1, 0, 0, 0, []), (10, .if_icmp .lt 9, 19, 0, 0, []), (13, .iload_n 1, 0, 0, 0, []), (14, .bipush 60, 0, 0, 0, []), (16, .if_icmp .le 5, 21, 0, 0, []), (19, .iconst 0, 0, 0, 0, []), (20, .ireturn, 0, 0, 0, []), (21, .aload_n 0, 0, 0, 0, []), (22, .getfield 11, 3, 0, 0, [1086]), (25, .iconst 0, 0, 0, 0, []), (26, .iload_n 1, 0, 0, 0, []), (27, .invokestatic 28, 201, 3, 1, [1083, 1084, 1001, 1085]), (30, .iconst 1, 0, 0, 0, []), (31, .ireturn, 0, 0, 0, [])]]
def gP55 : List (List gE) := [
  [(0, .aload_n 0, 0, 0, 0, []), (1, .getfield 21, 3, 3, 0, [1089]), (4, .bipush 6, 0, 0, 0, []), (6, .if_icmp .ge 14, 20, 0, 0, []), (9, .aload_n 0, 0, 0, 0, []), (10, .aload_n 0, 0, 0, 0, []), (11, .invokevirtual 36, 52, 0, 3, [4107, 4045, 50, 1003, 4046]), (14, .invokevirtual 40, 53, 1, 3, [4128, 4130, 59, 1003, 4131]), (17, .ifCond .ne 5, 22, 0, 0, []), (20, .iconst (-1), 0, 0, 0, []), (21, .ireturn, 0, 0, 0, []), (22, .aload_n 0, 0, 0, 0, []), (23, .dup, 0, 0, 0, []), (24, .getfield 21, 3, 3, 0, [1089]), (27, .iconst 1, 0, 0, 0, []), (28, .iadd, 0, 0, 0, []), (29, .putfield 21, 3, 3, 0, [1089])],
  [(32, .aload_n 0, 0, 0, 0, []), (33, .invokevirtual 36, 52, 0, 3, [4107, 4045, 50, 1003, 4046]), (36, .ireturn, 0, 0, 0, [])]]
def gP56 : List (List gE) := [
  [(0, .aload_n 0, 0, 0, 0, []), (1, .aload_n 0, 0, 0, 0, []), (2, .invokevirtual 36, 52, 0, 3, [4107, 4045, 50, 1003, 4046]), (5, .putfield 25, 3, 4, 0, [1090]), (8, .return_, 0, 0, 0, [])]]
def gP57 : List (List gE) := [
  [(0, .aload_n 0, 0, 0, 0, []), (1, .invokevirtual 36, 52, 0, 3, [4107, 4045, 50, 1003, 4046]), (4, .istore_n 3, 0, 0, 0, []), (5, .aload_n 0, 0, 0, 0, []), (6, .iload_n 3, 0, 0, 0, []), (7, .invokevirtual 40, 53, 1, 3, [4128, 4130, 59, 1003, 4131]), (10, .istore 4, 0, 0, 0, []), (12, .iload_n 3, 0, 0, 0, []), (13, .ifCond .eq 38, 51, 0, 0, []), (16, .aload_n 0, 0, 0, 0, []), (17, .getfield 25, 3, 4, 0, [1090]), (20, .iload_n 3, 0, 0, 0, []), (21, .if_icmp .eq 30, 51, 0, 0, []), (24, .aload_n 0, 0, 0, 0, []), (25, .getfield 15, 3, 1, 0, [1087]), (28, .iload_n 3, 0, 0, 0, []), (29, .invokestatic 32, 199, 2, 1, [4132, 3072, 1001, 3073])],
  [(32, .bipush 10, 0, 0, 0, []), (34, .if_icmp .ge 17, 51, 0, 0, []), (37, .iload_n 2, 0, 0, 0, []), (38, .iconst 1, 0, 0, 0, []), (39, .if_icmp .lt 12, 51, 0, 0, []), (42, .iload_n 2, 0, 0, 0, []), (43, .bipush 60, 0, 0, 0, []), (45, .iload 4, 0, 0, 0, []), (47, .isub, 0, 0, 0, []), (48, .if_icmp .le 5, 53, 0, 0, []), (51, .iconst (-1), 0, 0, 0, []), (52, .ireturn, 0, 0, 0, []), (53, .iconst 0, 0, 0, 0, []), (54, .istore 5, 0, 0, 0, []), (56, .iload 5, 0, 0, 0, []), (58, .iload_n 2, 0, 0, 0, []), (59, .if_icmp .ge 39, 98, 0, 0, []), (62, .aload_n 0, 0, 0, 0, []), (63, .getfield 18, 3, 2, 0, [1088])],
  [(66, .iload_n 3, 0, 0, 0, []), (67, .bipush 60, 0, 0, 0, []), (69, .imul, 0, 0, 0, []), (70, .iload 4, 0, 0, 0, []), (72, .iadd, 0, 0, 0, []), (73, .iload 5, 0, 0, 0, []), (75, .iadd, 0, 0, 0, []), (76, .iload_n 1, 0, 0, 0, []), (77, .iconst (-1), 0, 0, 0, []), (78, .if_icmp .ne 7, 85, 0, 0, []), (81, .iconst (-1), 0, 0, 0, []), (82, .goto 7, 89, 0, 0, []), (85, .iload_n 1, 0, 0, 0, []), (86, .iload 5, 0, 0, 0, []), (88, .iadd, 0, 0, 0, []), (89, .invokestatic 28, 201, 3, 1, [1083, 1084, 1001, 1085]), (92, .iinc 5 1, 0, 0, 0, []), (95, .goto (-39), 56, 0, 0, [])],
  [(98, .aload_n 0, 0, 0, 0, []), (99, .getfield 11, 3, 0, 0, [1086]), (102, .iload_n 3, 0, 0, 0, []), (103, .iload 4, 0, 0, 0, []), (105, .iload_n 2, 0, 0, 0, []), (106, .iadd, 0, 0, 0, []), (107, .invokestatic 28, 201, 3, 1, [1083, 1084, 1001, 1085]), (110, .aload_n 0, 0, 0, 0, []), (111, .getfield 15, 3, 1, 0, [1087]), (114, .iload_n 3, 0, 0, 0, []), (115, .aload_n 0, 0, 0, 0, []), (116, .getfield 15, 3, 1, 0, [1087]), (119, .iload_n 3, 0, 0, 0, []), (120, .invokestatic 32, 199, 2, 1, [4132, 3072, 1001, 3073]), (123, .iconst 1, 0, 0, 0, []), (124, .iadd, 0, 0, 0, []), (125, .invokestatic 28, 201, 3, 1, [1083, 1084, 1001, 1085])],
  [(128, .iload 4, 0, 0, 0, []), (130, .iload_n 2, 0, 0, 0, []), (131, .iadd, 0, 0, 0, []), (132, .ireturn, 0, 0, 0, [])]]
def gP58 : List (List gE) := [
  [(0, .iload_n 2, 0, 0, 0, []), (1, .istore 4, 0, 0, 0, []), (3, .iload_n 1, 0, 0, 0, []), (4, .istore 5, 0, 0, 0, []), (6, .iload 5, 0, 0, 0, []), (8, .iload_n 3, 0, 0, 0, []), (9, .if_icmp .le 32, 41, 0, 0, []), (12, .iload 4, 0, 0, 0, []), (14, .iconst (-1), 0, 0, 0, []), (15, .if_icmp .eq 26, 41, 0, 0, []), (18, .aload_n 0, 0, 0, 0, []), (19, .getfield 18, 3, 2, 0, [1088]), (22, .iload 5, 0, 0, 0, []), (24, .bipush 60, 0, 0, 0, []), (26, .imul, 0, 0, 0, []), (27, .iload 4, 0, 0, 0, []), (29, .iadd, 0, 0, 0, []), (30, .invokestatic 32, 199, 2, 1, [4132, 3072, 1001, 3073])],
  [(33, .istore 4, 0, 0, 0, []), (35, .iinc 5 (-1), 0, 0, 0, []), (38, .goto (-32), 6, 0, 0, []), (41, .iload 4, 0, 0, 0, []), (43, .ireturn, 0, 0, 0, [])]]
def gP59 : List (List gE) := [
  [(0, .aload_n 0, 0, 0, 0, []), (1, .invokespecial 3, 9999, 0, 0, [1142, 1027, 1028]), (4, .aload_n 0, 0, 0, 0, []), (5, .new 9, 8, 0, 0, [1143, 1144, 1006]), (8, .dup, 0, 0, 0, []), (9, .invokespecial 11, 119, 0, 1, [1145, 1146, 1006, 1147]), (12, .putfield 12, 4, 0, 0, [2110]), (15, .aload_n 0, 0, 0, 0, []), (16, .iconst 0, 0, 0, 0, []), (17, .putfield 18, 4, 1, 0, [2111]), (20, .aload_n 0, 0, 0, 0, []), (21, .iconst 0, 0, 0, 0, []), (22, .putfield 22, 4, 2, 0, [2112]), (25, .aload_n 0, 0, 0, 0, []), (26, .iconst 0, 0, 0, 0, []), (27, .putfield 25, 4, 3, 0, [2113]), (30, .aload_n 0, 0, 0, 0, []), (31, .iconst 0, 0, 0, 0, [])],
  [(32, .putfield 28, 4, 4, 0, [2114]), (35, .aload_n 0, 0, 0, 0, []), (36, .iconst 0, 0, 0, 0, []), (37, .putfield 31, 4, 5, 0, [2115]), (40, .aload_n 0, 0, 0, 0, []), (41, .iconst 0, 0, 0, 0, []), (42, .putfield 34, 4, 6, 0, [2116]), (45, .aload_n 0, 0, 0, 0, []), (46, .iconst 0, 0, 0, 0, []), (47, .putfield 37, 4, 7, 0, [2117]), (50, .aload_n 0, 0, 0, 0, []), (51, .new 41, 5, 0, 0, [1229, 1032, 1002]), (54, .dup, 0, 0, 0, []), (55, .invokespecial 43, 96, 0, 1, [1230, 1034, 1002, 1035]), (58, .putfield 44, 4, 8, 0, [2119]), (61, .aload_n 0, 0, 0, 0, []), (62, .bipush 112, 0, 0, 0, [])],
  [(64, .anewarray 48, 6, 0, 0, [1231, 1232]), (67, .putfield 50, 4, 9, 0, [2120]), (70, .aload_n 0, 0, 0, 0, []), (71, .bipush 7, 0, 0, 0, []), (73, .newarray .int, 0, 0, 0, [1076]), (75, .putfield 54, 4, 10, 0, [2121]), (78, .aload_n 0, 0, 0, 0, []), (79, .bipush 7, 0, 0, 0, []), (81, .newarray .int, 0, 0, 0, [1076]), (83, .putfield 58, 4, 11, 0, [2122]), (86, .aload_n 0, 0, 0, 0, []), (87, .bipush 6, 0, 0, 0, []), (89, .newarray .long, 1, 0, 0, [1227]), (91, .putfield 61, 4, 12, 0, [2123]), (94, .aload_n 0, 0, 0, 0, []), (95, .iconst 0, 0, 0, 0, [])],
  [(96, .putfield 65, 4, 13, 0, [2124]), (99, .aload_n 0, 0, 0, 0, []), (100, .bipush 64, 0, 0, 0, []), (102, .newarray .int, 0, 0, 0, [1076]), (104, .putfield 68, 4, 14, 0, [2125]), (107, .aload_n 0, 0, 0, 0, []), (108, .iconst 0, 0, 0, 0, []), (109, .putfield 71, 4, 15, 0, [2126]), (112, .iconst 0, 0, 0, 0, []), (113, .istore_n 1, 0, 0, 0, []), (114, .iload_n 1, 0, 0, 0, []), (115, .aload_n 0, 0, 0, 0, []), (116, .getfield 50, 4, 9, 0, [2120]), (119, .arraylength, 0, 0, 0, []), (120, .if_icmp .ge 22, 142, 0, 0, []), (123, .aload_n 0, 0, 0, 0, []), (124, .getfield 50, 4, 9, 0, [2120]), (127, .iload_n 1, 0, 0, 0, [])],
  [(128, .new 48, 1, 0, 0, [1231, 1233, 1011]), (131, .dup, 0, 0, 0, []), (132, .invokespecial 74, 22, 0, 1, [1234, 1235, 1011, 1236]), (135, .aastore, 0, 0, 0, []), (136, .iinc 1 1, 0, 0, 0, []), (139, .goto (-25), 114, 0, 0, []), (142, .return_, 0, 0, 0, [])]]
def gP60 : List (List gE) := [
  [(0, .aload_n 0, 0, 0, 0, []), (1, .getfield 12, 4, 0, 0, [2110]), (4, .aload_n 1, 0, 0, 0, []), (5, .iload_n 2, 0, 0, 0, []), (6, .invokevirtual 75, 125, 2, 8, [3063, 3065, 3, 1006, 3066]), (9, .aload_n 0, 0, 0, 0, []), (10, .invokevirtual 79, 61, 0, 4, [3104, 3106, 9, 1005, 3107]), (13, .iconst 0, 0, 0, 0, []), (14, .istore_n 3, 0, 0, 0, []), (15, .iload_n 3, 0, 0, 0, []), (16, .bipush 6, 0, 0, 0, []), (18, .if_icmp .gt 37, 55, 0, 0, []), (21, .aload_n 0, 0, 0, 0, []), (22, .getfield 25, 4, 3, 0, [2113]), (25, .ifCond .ne 30, 55, 0, 0, []), (28, .aload_n 0, 0, 0, 0, []), (29, .getfield 22, 4, 2, 0, [2112])],
  [(32, .bipush 16, 0, 0, 0, []), (34, .if_icmp .ne 21, 55, 0, 0, []), (37, .aload_n 0, 0, 0, 0, []), (38, .invokevirtual 82, 68, 0, 4, [3112, 3114, 11, 1005, 3115]), (41, .aload_n 0, 0, 0, 0, []), (42, .invokevirtual 85, 72, 0, 4, [3138, 3140, 17, 1005, 3141]), (45, .aload_n 0, 0, 0, 0, []), (46, .invokevirtual 88, 69, 0, 4, [3191, 3193, 29, 1005, 3194]), (49, .iinc 3 1, 0, 0, 0, []), (52, .goto (-37), 15, 0, 0, []), (55, .aload_n 0, 0, 0, 0, []), (56, .getfield 37, 4, 7, 0, [2117]), (59, .ifCond .eq 10, 69, 0, 0, []), (62, .aload_n 0, 0, 0, 0, []), (63, .invokevirtual 91, 84, 0, 4, [3195, 3197, 30, 1005, 3198])],
  [(66, .goto 23, 89, 0, 0, []), (69, .aload_n 0, 0, 0, 0, []), (70, .getfield 18, 4, 1, 0, [2111]), (73, .istore_n 3, 0, 0, 0, []), (74, .aload_n 0, 0, 0, 0, []), (75, .bipush 18, 0, 0, 0, []), (77, .invokevirtual 94, 66, 1, 4, [3120, 3122, 13, 1005, 3123]), (80, .aload_n 0, 0, 0, 0, []), (81, .invokevirtual 85, 72, 0, 4, [3138, 3140, 17, 1005, 3141]), (84, .aload_n 0, 0, 0, 0, []), (85, .iload_n 3, 0, 0, 0, []), (86, .invokevirtual 98, 70, 1, 4, [4026, 4028, 46, 1005, 4029]), (89, .aload_n 0, 0, 0, 0, []), (90, .getfield 22, 4, 2, 0, [2112]), (93, .ifCond .eq 8, 101, 0, 0, [])],
  [(96, .aload_n 0, 0, 0, 0, []), (97, .iconst 1, 0, 0, 0, []), (98, .invokevirtual 101, 64, 1, 4, [3116, 3118, 12, 1005, 3119]), (101, .aload_n 0, 0, 0, 0, []), (102, .getfield 25, 4, 3, 0, [2113]), (105, .ifCond .ne 19, 124, 0, 0, []), (108, .aload_n 0, 0, 0, 0, []), (109, .aload_n 0, 0, 0, 0, []), (110, .getfield 31, 4, 5, 0, [2115]), (113, .putfield 25, 4, 3, 0, [2113]), (116, .aload_n 0, 0, 0, 0, []), (117, .aload_n 0, 0, 0, 0, []), (118, .getfield 34, 4, 6, 0, [2116]), (121, .putfield 28, 4, 4, 0, [2114]), (124, .aload_n 0, 0, 0, 0, []), (125, .getfield 25, 4, 3, 0, [2113])],
  [(128, .ireturn, 0, 0, 0, [])]]
def gP61 : List (List gE) := [
  [(0, .aload_n 0, 0, 0, 0, []), (1, .iconst 0, 0, 0, 0, []), (2, .putfield 18, 4, 1, 0, [2111]), (5, .aload_n 0, 0, 0, 0, []), (6, .aload_n 0, 0, 0, 0, []), (7, .getfield 12, 4, 0, 0, [2110]), (10, .iconst 0, 0, 0, 0, []), (11, .invokevirtual 104, 122, 1, 8, [3108, 3110, 10, 1006, 3111]), (14, .putfield 22, 4, 2, 0, [2112]), (17, .aload_n 0, 0, 0, 0, []), (18, .iconst 0, 0, 0, 0, []), (19, .putfield 25, 4, 3, 0, [2113]), (22, .aload_n 0, 0, 0, 0, []), (23, .iconst 0, 0, 0, 0, []), (24, .putfield 31, 4, 5, 0, [2115]), (27, .aload_n 0, 0, 0, 0, []), (28, .iconst 0, 0, 0, 0, []), (29, .putfield 65, 4, 13, 0, [2124])],
  [(32, .aload_n 0, 0, 0, 0, []), (33, .aload_n 0, 0, 0, 0, []), (34, .getfield 22, 4, 2, 0, [2112]), (37, .bipush 19, 0, 0, 0, []), (39, .if_icmp .ne 7, 46, 0, 0, []), (42, .iconst 1, 0, 0, 0, []), (43, .goto 4, 47, 0, 0, []), (46, .iconst 0, 0, 0, 0, []), (47, .putfield 37, 4, 7, 0, [2117]), (50, .return_, 0, 0, 0, [])]]
def gP62 : List (List gE) := [
  [(0, .aload_n 0, 0, 0, 0, []), (1, .getfield 25, 4, 3, 0, [2113]), (4, .ifCond .ne 7, 11, 0, 0, []), (7, .iconst (-1), 0, 0, 0, []), (8, .goto 14, 22, 0, 0, []), (11, .aload_n 0, 0, 0, 0, []), (12, .getfield 12, 4, 0, 0, [2110]), (15, .aload_n 0, 0, 0, 0, []), (16, .getfield 28, 4, 4, 0, [2114]), (19, .invokevirtual 108, 124, 1, 8, [3149, 3151, 19, 1006, 3152]), (22, .ireturn, 0, 0, 0, [])]]
def gP63 : List (List gE) := [
  [(0, .aload_n 0, 0, 0, 0, []), (1, .getfield 44, 4, 8, 0, [2119]), (4, .astore_n 2, 0, 0, 0, []), (5, .aload_n 0, 0, 0, 0, []), (6, .aload_n 1, 0, 0, 0, []), (7, .putfield 44, 4, 8, 0, [2119]), (10, .aload_n 2, 0, 0, 0, []), (11, .areturn, 0, 0, 0, [])]]
def gP64 : List (List gE) := [
  [(0, .aload_n 0, 0, 0, 0, []), (1, .getfield 25, 4, 3, 0, [2113]), (4, .ifCond .ne 16, 20, 0, 0, []), (7, .aload_n 0, 0, 0, 0, []), (8, .iload_n 1, 0, 0, 0, []), (9, .putfield 25, 4, 3, 0, [2113]), (12, .aload_n 0, 0, 0, 0, []), (13, .aload_n 0, 0, 0, 0, []), (14, .getfield 18, 4, 1, 0, [2111]), (17, .putfield 28, 4, 4, 0, [2114]), (20, .return_, 0, 0, 0, [])]]
def gP65 : List (List gE) := [
  [(0, .aload_n 0, 0, 0, 0, []), (1, .getfield 31, 4, 5, 0, [2115]), (4, .ifCond .ne 13, 17, 0, 0, []), (7, .aload_n 0, 0, 0, 0, []), (8, .iload_n 1, 0, 0, 0, []), (9, .putfield 31, 4, 5, 0, [2115]), (12, .aload_n 0, 0, 0, 0, []), (13, .iload_n 2, 0, 0, 0, []), (14, .putfield 34, 4, 6, 0, [2116]), (17, .return_, 0, 0, 0, [])]]
def gP66 : List (List gE) := [
  [(0, .aload_n 0, 0, 0, 0, []), (1, .getfield 22, 4, 2, 0, [2112]), (4, .iload_n 1, 0, 0, 0, []), (5, .if_icmp .eq 11, 16, 0, 0, []), (8, .aload_n 0, 0, 0, 0, []), (9, .iconst 1, 0, 0, 0, []), (10, .invokevirtual 101, 64, 1, 4, [3116, 3118, 12, 1005, 3119]), (13, .goto 18, 31, 0, 0, []), (16, .aload_n 0, 0, 0, 0, []), (17, .getfield 18, 4, 1, 0, [2111]), (20, .sipush 500, 0, 0, 0, []), (23, .if_icmp .lt 8, 31, 0, 0, []), (26, .aload_n 0, 0, 0, 0, []), (27, .iconst 2, 0, 0, 0, []), (28, .invokevirtual 101, 64, 1, 4, [3116, 3118, 12, 1005, 3119]), (31, .aload_n 0, 0, 0, 0, [])],
  [(32, .getfield 25, 4, 3, 0, [2113]), (35, .ifCond .ne 28, 63, 0, 0, []), (38, .aload_n 0, 0, 0, 0, []), (39, .dup, 0, 0, 0, []), (40, .getfield 18, 4, 1, 0, [2111]), (43, .iconst 1, 0, 0, 0, []), (44, .iadd, 0, 0, 0, []), (45, .putfield 18, 4, 1, 0, [2111]), (48, .aload_n 0, 0, 0, 0, []), (49, .aload_n 0, 0, 0, 0, []), (50, .getfield 12, 4, 0, 0, [2110]), (53, .aload_n 0, 0, 0, 0, []), (54, .getfield 18, 4, 1, 0, [2111]), (57, .invokevirtual 104, 122, 1, 8, [3108, 3110, 10, 1006, 3111]), (60, .putfield 22, 4, 2, 0, [2112]), (63, .return_, 0, 0, 0, [])]]
def gP67 : List (List gE) := [
  [(0, .aload_n 0, 0, 0, 0, []), (1, .getfield 12, 4, 0, 0, [2110]), (4, .aload_n 0, 0, 0, 0, []), (5, .getfield 18, 4, 1, 0, [2111]), (8, .invokevirtual 111, 123, 1, 8, [3124, 3126, 14, 1006, 3127]), (11, .l2i, 0, 0, 0, []), (12, .istore_n 3, 0, 0, 0, []), (13, .iload_n 3, 0, 0, 0, []), (14, .iload_n 1, 0, 0, 0, []), (15, .if_icmp .lt 8, 23, 0, 0, []), (18, .iload_n 3, 0, 0, 0, []), (19, .iload_n 2, 0, 0, 0, []), (20, .if_icmp .le 12, 32, 0, 0, []), (23, .aload_n 0, 0, 0, 0, []), (24, .iconst 5, 0, 0, 0, []), (25, .aload_n 0, 0, 0, 0, []), (26, .getfield 18, 4, 1, 0, [2111]), (29, .invokevirtual 115, 65, 2, 4, [3133, 3135, 16, 1005, 3136])],
  [(32, .aload_n 0, 0, 0, 0, []), (33, .iconst 3, 0, 0, 0, []), (34, .invokevirtual 94, 66, 1, 4, [3120, 3122, 13, 1005, 3123]), (37, .iload_n 3, 0, 0, 0, []), (38, .ireturn, 0, 0, 0, [])]]
def gP68 : List (List gE) := [
  [(0, .aload_n 0, 0, 0, 0, []), (1, .getfield 65, 4, 13, 0, [2124]), (4, .bipush 6, 0, 0, 0, []), (6, .if_icmp .lt 8, 14, 0, 0, []), (9, .aload_n 0, 0, 0, 0, []), (10, .iconst 2, 0, 0, 0, []), (11, .invokevirtual 101, 64, 1, 4, [3116, 3118, 12, 1005, 3119]), (14, .aload_n 0, 0, 0, 0, []), (15, .bipush 16, 0, 0, 0, []), (17, .invokevirtual 94, 66, 1, 4, [3120, 3122, 13, 1005, 3123]), (20, .aload_n 0, 0, 0, 0, []), (21, .getfield 12, 4, 0, 0, [2110]), (24, .aload_n 0, 0, 0, 0, []), (25, .getfield 18, 4, 1, 0, [2111]), (28, .invokevirtual 111, 123, 1, 8, [3124, 3126, 14, 1006, 3127]), (31, .lstore_n 1, 0, 0, 0, [])],
  [(32, .aload_n 0, 0, 0, 0, []), (33, .lload_n 1, 0, 0, 0, []), (34, .invokevirtual 119, 71, 1, 4, [3128, 3130, 15, 1005, 3131]), (37, .iconst (-1), 0, 0, 0, []), (38, .if_icmp .eq 12, 50, 0, 0, []), (41, .aload_n 0, 0, 0, 0, []), (42, .iconst 3, 0, 0, 0, []), (43, .aload_n 0, 0, 0, 0, []), (44, .getfield 18, 4, 1, 0, [2111]), (47, .invokevirtual 115, 65, 2, 4, [3133, 3135, 16, 1005, 3136]), (50, .aload_n 0, 0, 0, 0, []), (51, .getfield 61, 4, 12, 0, [2123]), (54, .aload_n 0, 0, 0, 0, []), (55, .getfield 65, 4, 13, 0, [2124]), (58, .lload_n 1, 0, 0, 0, []), (59, .invokestatic 123, 202, 3, 1, [3137, 1203, 1001, 1204]), (62, .aload_n 0, 0, 0, 0, []), (63, .iconst 2, 0, 0, 0, [])],
  [(64, .invokevirtual 94, 66, 1, 4, [3120, 3122, 13, 1005, 3123]), (67, .return_, 0, 0, 0, [])]]
def gP69 : List (List gE) := [
  [(0, .aload_n 0, 0, 0, 0, []), (1, .bipush 17, 0, 0, 0, []), (3, .invokevirtual 94, 66, 1, 4, [3120, 3122, 13, 1005, 3123]), (6, .aload_n 0, 0, 0, 0, []), (7, .dup, 0, 0, 0, []), (8, .getfield 65, 4, 13, 0, [2124]), (11, .aload_n 0, 0, 0, 0, []), (12, .getfield 25, 4, 3, 0, [2113]), (15, .ifCond .ne 7, 22, 0, 0, []), (18, .iconst 1, 0, 0, 0, []), (19, .goto 4, 23, 0, 0, []), (22, .iconst 0, 0, 0, 0, []), (23, .iadd, 0, 0, 0, []), (24, .putfield 65, 4, 13, 0, [2124]), (27, .return_, 0, 0, 0, [])]]
def gP70 : List (List gE) := [
  [(0, .aload_n 0, 0, 0, 0, []), (1, .bipush 17, 0, 0, 0, []), (3, .invokevirtual 94, 66, 1, 4, [3120, 3122, 13, 1005, 3123]), (6, .aload_n 0, 0, 0, 0, []), (7, .getfield 58, 4, 11, 0, [2122]), (10, .aload_n 0, 0, 0, 0, []), (11, .getfield 65, 4, 13, 0, [2124]), (14, .invokestatic 127, 199, 2, 1, [3190, 3072, 1001, 3073]), (17, .bipush 40, 0, 0, 0, []), (19, .if_icmp .le 10, 29, 0, 0, []), (22, .aload_n 0, 0, 0, 0, []), (23, .bipush 6, 0, 0, 0, []), (25, .iload_n 1, 0, 0, 0, []), (26, .invokevirtual 115, 65, 2, 4, [3133, 3135, 16, 1005, 3136]), (29, .return_, 0, 0, 0, [])]]
def gP71 : List (List gE) := [
  [(0, .iconst 0, 0, 0, 0, []), (1, .istore_n 3, 0, 0, 0, []), (2, .iload_n 3, 0, 0, 0, []), (3, .aload_n 0, 0, 0, 0, []), (4, .getfield 65, 4, 13, 0, [2124]), (7, .if_icmp .ge 24, 31, 0, 0, []), (10, .aload_n 0, 0, 0, 0, []), (11, .getfield 61, 4, 12, 0, [2123]), (14, .iload_n 3, 0, 0, 0, []), (15, .invokestatic 131, 200, 2, 1, [3132, 3083, 1001, 3084]), (18, .lload_n 1, 0, 0, 0, []), (19, .lcmp, 0, 0, 0, []), (20, .ifCond .ne 5, 25, 0, 0, []), (23, .iload_n 3, 0, 0, 0, []), (24, .ireturn, 0, 0, 0, []), (25, .iinc 3 1, 0, 0, 0, []), (28, .goto (-26), 2, 0, 0, []), (31, .iconst (-1), 0, 0, 0, [])],
  [(32, .ireturn, 0, 0, 0, [])]]
def gP72 : List (List gE) := [
  [(0, .iconst 0, 0, 0, 0, []), (1, .istore_n 1, 0, 0, 0, []), (2, .iconst 0, 0, 0, 0, []), (3, .istore_n 2, 0, 0, 0, []), (4, .iconst 0, 0, 0, 0, []), (5, .istore_n 3, 0, 0, 0, []), (6, .iload_n 3, 0, 0, 0, []), (7, .bipush 16, 0, 0, 0, []), (9, .if_icmp .gt 215, 224, 0, 0, []), (12, .aload_n 0, 0, 0, 0, []), (13, .getfield 25, 4, 3, 0, [2113]), (16, .ifCond .ne 208, 224, 0, 0, []), (19, .aload_n 0, 0, 0, 0, []), (20, .getfield 22, 4, 2, 0, [2112]), (23, .invokestatic 134, 73, 1, 0, [3142, 3143, 1005, 3144]), (26, .ifCond .eq 198, 224, 0, 0, []), (29, .aload_n 0, 0, 0, 0, []), (30, .aload_n 0, 0, 0, 0, []), (31, .getfield 65, 4, 13, 0, [2124])],
  [(34, .iload_n 1, 0, 0, 0, []), (35, .invokevirtual 138, 74, 2, 4, [3145, 3147, 18, 1005, 3148]), (38, .astore 4, 0, 0, 0, []), (40, .aload 4, 0, 0, 0, []), (42, .ifnonnull 11, 53, 0, 0, []), (45, .aload_n 0, 0, 0, 0, []), (46, .iconst 2, 0, 0, 0, []), (47, .invokevirtual 101, 64, 1, 4, [3116, 3118, 12, 1005, 3119]), (50, .goto 168, 218, 0, 0, []), (53, .aload 4, 0, 0, 0, []), (55, .aload_n 0, 0, 0, 0, []), (56, .getfield 22, 4, 2, 0, [2112]), (59, .bipush 20, 0, 0, 0, []), (61, .isub, 0, 0, 0, []), (62, .aload_n 0, 0, 0, 0, []), (63, .getfield 12, 4, 0, 0, [2110])],
  [(66, .aload_n 0, 0, 0, 0, []), (67, .getfield 18, 4, 1, 0, [2111]), (70, .invokevirtual 108, 124, 1, 8, [3149, 3151, 19, 1006, 3152]), (73, .invokevirtual 142, 24, 2, 1, [3153, 3155, 20, 1011, 3156]), (76, .aload_n 0, 0, 0, 0, []), (77, .aload_n 0, 0, 0, 0, []), (78, .getfield 22, 4, 2, 0, [2112]), (81, .invokevirtual 94, 66, 1, 4, [3120, 3122, 13, 1005, 3123]), (84, .aload 4, 0, 0, 0, []), (86, .getfield 145, 1, 0, 1, [2002]), (89, .tableswitch 87 0 4 #[35, 44, 53, 62, 71], 0, 0, 0, [])],
  [(124, .aload_n 0, 0, 0, 0, []), (125, .aload 4, 0, 0, 0, []), (127, .invokevirtual 146, 75, 1, 4, [3157, 3159, 21, 1005, 3160])],
  [(130, .goto 52, 182, 0, 0, []), (133, .aload_n 0, 0, 0, 0, []), (134, .aload 4, 0, 0, 0, []), (136, .invokevirtual 150, 76, 1, 4, [3169, 3171, 24, 1005, 3172]), (139, .goto 43, 182, 0, 0, []), (142, .aload_n 0, 0, 0, 0, []), (143, .aload 4, 0, 0, 0, []), (145, .invokevirtual 153, 77, 1, 4, [3173, 3175, 25, 1005, 3176]), (148, .goto 34, 182, 0, 0, []), (151, .aload_n 0, 0, 0, 0, []), (152, .aload 4, 0, 0, 0, []), (154, .invokevirtual 156, 78, 1, 4, [3177, 3179, 26, 1005, 3180]), (157, .goto 25, 182, 0, 0, [])],
  [(160, .aload 4, 0, 0, 0, []), (162, .aload_n 0, 0, 0, 0, []), (163, .iconst 0, 0, 0, 0, []), (164, .sipush 9999, 0, 0, 0, []), (167, .invokevirtual 159, 67, 2, 4, [3161, 3163, 22, 1005, 3164]), (170, .putfield 163, 1, 2, 1, [2010]), (173, .goto 9, 182, 0, 0, []), (176, .aload_n 0, 0, 0, 0, []), (177, .aload 4, 0, 0, 0, []), (179, .invokevirtual 166, 80, 1, 4, [3186, 3188, 28, 1005, 3189]), (182, .aload_n 0, 0, 0, 0, []), (183, .iconst 4, 0, 0, 0, []), (184, .invokevirtual 94, 66, 1, 4, [3120, 3122, 13, 1005, 3123]), (187, .iinc 1 1, 0, 0, 0, []), (190, .iload_n 2, 0, 0, 0, []), (191, .aload 4, 0, 0, 0, [])],
  [(193, .getfield 145, 1, 0, 1, [2002]), (196, .iconst 5, 0, 0, 0, []), (197, .if_icmp .ne 18, 215, 0, 0, []), (200, .aload_n 0, 0, 0, 0, []), (201, .getfield 58, 4, 11, 0, [2122]), (204, .aload 4, 0, 0, 0, []), (206, .getfield 163, 1, 2, 1, [2010]), (209, .invokestatic 127, 199, 2, 1, [3190, 3072, 1001, 3073]), (212, .goto 4, 216, 0, 0, []), (215, .iconst 1, 0, 0, 0, []), (216, .iadd, 0, 0, 0, []), (217, .istore_n 2, 0, 0, 0, []), (218, .iinc 3 1, 0, 0, 0, []), (221, .goto (-215), 6, 0, 0, [])],
  [(224, .aload_n 0, 0, 0, 0, []), (225, .getfield 54, 4, 10, 0, [2121]), (228, .aload_n 0, 0, 0, 0, []), (229, .getfield 65, 4, 13, 0, [2124]), (232, .iload_n 1, 0, 0, 0, []), (233, .invokestatic 169, 201, 3, 1, [3185, 1084, 1001, 1085]), (236, .aload_n 0, 0, 0, 0, []), (237, .getfield 58, 4, 11, 0, [2122]), (240, .aload_n 0, 0, 0, 0, []), (241, .getfield 65, 4, 13, 0, [2124]), (244, .iload_n 2, 0, 0, 0, []), (245, .invokestatic 169, 201, 3, 1, [3185, 1084, 1001, 1085]), (248, .return_, 0, 0, 0, [])]]
def gP73 : List (List gE) := [
  [(0, .iload_n 0, 0, 0, 0, []), (1, .bipush 20, 0, 0, 0, []), (3, .if_icmp .lt 13, 16, 0, 0, []), (6, .iload_n 0, 0, 0, 0, []), (7, .bipush 25, 0, 0, 0, []), (9, .if_icmp .gt 7, 16, 0, 0, []), (12, .iconst 1, 0, 0, 0, []), (13, .goto 4, 17, 0, 0, []), (16, .iconst 0, 0, 0, 0, []), (17, .ireturn, 0, 0, 0, [])]]
def gP74 : List (List gE) := [
  [(0, .iload_n 1, 0, 0, 0, []), (1, .bipush 16, 0, 0, 0, []), (3, .imul, 0, 0, 0, []), (4, .iload_n 2, 0, 0, 0, []), (5, .iadd, 0, 0, 0, []), (6, .istore_n 3, 0, 0, 0, []), (7, .iload_n 2, 0, 0, 0, []), (8, .ifCond .lt 22, 30, 0, 0, []), (11, .iload_n 2, 0, 0, 0, []), (12, .bipush 16, 0, 0, 0, []), (14, .if_icmp .ge 16, 30, 0, 0, []), (17, .iload_n 3, 0, 0, 0, []), (18, .ifCond .lt 12, 30, 0, 0, []), (21, .iload_n 3, 0, 0, 0, []), (22, .aload_n 0, 0, 0, 0, []), (23, .getfield 50, 4, 9, 0, [2120]), (26, .arraylength, 0, 0, 0, []), (27, .if_icmp .lt 7, 34, 0, 0, []), (30, .aconst_null, 0, 0, 0, []), (31, .goto 9, 40, 0, 0, [])],
  [(34, .aload_n 0, 0, 0, 0, []), (35, .getfield 50, 4, 9, 0, [2120]), (38, .iload_n 3, 0, 0, 0, []), (39, .aaload, 0, 0, 0, []), (40, .areturn, 0, 0, 0, [])]]
def gP75 : List (List gE) := [
  [(0, .aload_n 1, 0, 0, 0, []), (1, .aload_n 0, 0, 0, 0, []), (2, .iconst 0, 0, 0, 0, []), (3, .bipush 19, 0, 0, 0, []), (5, .invokevirtual 159, 67, 2, 4, [3161, 3163, 22, 1005, 3164]), (8, .putfield 163, 1, 2, 1, [2010]), (11, .aload_n 0, 0, 0, 0, []), (12, .bipush 26, 0, 0, 0, []), (14, .invokevirtual 94, 66, 1, 4, [3120, 3122, 13, 1005, 3123]), (17, .aload_n 0, 0, 0, 0, []), (18, .aload_n 1, 0, 0, 0, []), (19, .iconst 0, 0, 0, 0, []), (20, .invokevirtual 172, 81, 2, 4, [3165, 3167, 23, 1005, 3168]), (23, .aload_n 0, 0, 0, 0, []), (24, .getfield 22, 4, 2, 0, [2112]), (27, .bipush 27, 0, 0, 0, []), (29, .if_icmp .ne 20, 49, 0, 0, [])],
  [(32, .aload_n 0, 0, 0, 0, []), (33, .bipush 27, 0, 0, 0, []), (35, .invokevirtual 94, 66, 1, 4, [3120, 3122, 13, 1005, 3123]), (38, .aload_n 1, 0, 0, 0, []), (39, .aload_n 0, 0, 0, 0, []), (40, .iconst 0, 0, 0, 0, []), (41, .bipush 60, 0, 0, 0, []), (43, .invokevirtual 159, 67, 2, 4, [3161, 3163, 22, 1005, 3164]), (46, .putfield 176, 1, 8, 1, [2039]), (49, .aload_n 0, 0, 0, 0, []), (50, .getfield 22, 4, 2, 0, [2112]), (53, .bipush 28, 0, 0, 0, []), (55, .if_icmp .ne 20, 75, 0, 0, []), (58, .aload_n 0, 0, 0, 0, []), (59, .bipush 28, 0, 0, 0, []), (61, .invokevirtual 94, 66, 1, 4, [3120, 3122, 13, 1005, 3123])],
  [(64, .aload_n 1, 0, 0, 0, []), (65, .aload_n 0, 0, 0, 0, []), (66, .iconst 0, 0, 0, 0, []), (67, .bipush 60, 0, 0, 0, []), (69, .invokevirtual 159, 67, 2, 4, [3161, 3163, 22, 1005, 3164]), (72, .putfield 179, 1, 9, 1, [2042]), (75, .aload_n 0, 0, 0, 0, []), (76, .getfield 22, 4, 2, 0, [2112]), (79, .bipush 29, 0, 0, 0, []), (81, .if_icmp .ne 21, 102, 0, 0, []), (84, .aload_n 0, 0, 0, 0, []), (85, .bipush 29, 0, 0, 0, []), (87, .invokevirtual 94, 66, 1, 4, [3120, 3122, 13, 1005, 3123]), (90, .aload_n 1, 0, 0, 0, []), (91, .aload_n 0, 0, 0, 0, []), (92, .iconst 0, 0, 0, 0, []), (93, .sipush 400, 0, 0, 0, [])],
  [(96, .invokevirtual 159, 67, 2, 4, [3161, 3163, 22, 1005, 3164]), (99, .putfield 182, 1, 10, 1, [2046]), (102, .aload_n 0, 0, 0, 0, []), (103, .getfield 22, 4, 2, 0, [2112]), (106, .bipush 30, 0, 0, 0, []), (108, .if_icmp .ne 37, 145, 0, 0, []), (111, .aload_n 0, 0, 0, 0, []), (112, .bipush 30, 0, 0, 0, []), (114, .invokevirtual 94, 66, 1, 4, [3120, 3122, 13, 1005, 3123]), (117, .aload_n 1, 0, 0, 0, []), (118, .aload_n 0, 0, 0, 0, []), (119, .iconst 1, 0, 0, 0, []), (120, .bipush 9, 0, 0, 0, []), (122, .invokevirtual 159, 67, 2, 4, [3161, 3163, 22, 1005, 3164]), (125, .putfield 185, 1, 12, 1, [2052])],
  [(128, .aload_n 0, 0, 0, 0, []), (129, .bipush 9, 0, 0, 0, []), (131, .invokevirtual 94, 66, 1, 4, [3120, 3122, 13, 1005, 3123]), (134, .aload_n 1, 0, 0, 0, []), (135, .aload_n 0, 0, 0, 0, []), (136, .iconst 1, 0, 0, 0, []), (137, .bipush 9, 0, 0, 0, []), (139, .invokevirtual 159, 67, 2, 4, [3161, 3163, 22, 1005, 3164]), (142, .putfield 188, 1, 13, 1, [2055]), (145, .aload_n 0, 0, 0, 0, []), (146, .bipush 31, 0, 0, 0, []), (148, .invokevirtual 94, 66, 1, 4, [3120, 3122, 13, 1005, 3123]), (151, .aload_n 1, 0, 0, 0, []), (152, .aload_n 0, 0, 0, 0, []), (153, .iconst 0, 0, 0, 0, []), (154, .iconst 2, 0, 0, 0, []), (155, .invokevirtual 159, 67, 2, 4, [3161, 3163, 22, 1005, 3164]), (158, .putfield 191, 1, 3, 1, [2015])],
  [(161, .return_, 0, 0, 0, [])]]
def gP76 : List (List gE) := [
  [(0, .aload_n 1, 0, 0, 0, []), (1, .aload_n 0, 0, 0, 0, []), (2, .iconst 0, 0, 0, 0, []), (3, .iconst 2, 0, 0, 0, []), (4, .invokevirtual 159, 67, 2, 4, [3161, 3163, 22, 1005, 3164]), (7, .putfield 191, 1, 3, 1, [2015]), (10, .aload_n 0, 0, 0, 0, []), (11, .bipush 27, 0, 0, 0, []), (13, .invokevirtual 94, 66, 1, 4, [3120, 3122, 13, 1005, 3123]), (16, .aload_n 0, 0, 0, 0, []), (17, .aload_n 1, 0, 0, 0, []), (18, .iconst 0, 0, 0, 0, []), (19, .invokevirtual 172, 81, 2, 4, [3165, 3167, 23, 1005, 3168]), (22, .aload_n 0, 0, 0, 0, []), (23, .bipush 32, 0, 0, 0, []), (25, .invokevirtual 94, 66, 1, 4, [3120, 3122, 13, 1005, 3123]), (28, .aload_n 0, 0, 0, 0, []), (29, .aload_n 1, 0, 0, 0, []), (30, .iconst 1, 0, 0, 0, []), (31, .invokevirtual 172, 81, 2, 4, [3165, 3167, 23, 1005, 3168])],
  [(34, .aload_n 0, 0, 0, 0, []), (35, .bipush 29, 0, 0, 0, []), (37, .invokevirtual 94, 66, 1, 4, [3120, 3122, 13, 1005, 3123]), (40, .aload_n 1, 0, 0, 0, []), (41, .aload_n 0, 0, 0, 0, []), (42, .iconst 0, 0, 0, 0, []), (43, .sipush 400, 0, 0, 0, []), (46, .invokevirtual 159, 67, 2, 4, [3161, 3163, 22, 1005, 3164]), (49, .putfield 182, 1, 10, 1, [2046]), (52, .aload_n 0, 0, 0, 0, []), (53, .iconst 5, 0, 0, 0, []), (54, .invokevirtual 94, 66, 1, 4, [3120, 3122, 13, 1005, 3123]), (57, .aload_n 1, 0, 0, 0, []), (58, .aload_n 0, 0, 0, 0, []), (59, .iconst 0, 0, 0, 0, []), (60, .sipush 400, 0, 0, 0, []), (63, .invokevirtual 159, 67, 2, 4, [3161, 3163, 22, 1005, 3164])],
  [(66, .putfield 194, 1, 11, 1, [2049]), (69, .return_, 0, 0, 0, [])]]
def gP77 : List (List gE) := [
  [(0, .aload_n 1, 0, 0, 0, []), (1, .aload_n 0, 0, 0, 0, []), (2, .iconst 0, 0, 0, 0, []), (3, .iconst 2, 0, 0, 0, []), (4, .invokevirtual 159, 67, 2, 4, [3161, 3163, 22, 1005, 3164]), (7, .putfield 191, 1, 3, 1, [2015]), (10, .aload_n 0, 0, 0, 0, []), (11, .bipush 33, 0, 0, 0, []), (13, .invokevirtual 94, 66, 1, 4, [3120, 3122, 13, 1005, 3123]), (16, .aload_n 1, 0, 0, 0, []), (17, .aload_n 0, 0, 0, 0, []), (18, .iconst 0, 0, 0, 0, []), (19, .iconst 2, 0, 0, 0, []), (20, .invokevirtual 159, 67, 2, 4, [3161, 3163, 22, 1005, 3164]), (23, .putfield 197, 1, 14, 1, [2057]), (26, .aload_n 0, 0, 0, 0, []), (27, .bipush 34, 0, 0, 0, []), (29, .invokevirtual 94, 66, 1, 4, [3120, 3122, 13, 1005, 3123])],
  [(32, .aload_n 1, 0, 0, 0, []), (33, .aload_n 0, 0, 0, 0, []), (34, .iconst 0, 0, 0, 0, []), (35, .sipush 400, 0, 0, 0, []), (38, .invokevirtual 159, 67, 2, 4, [3161, 3163, 22, 1005, 3164]), (41, .putfield 200, 1, 15, 1, [2060]), (44, .aload_n 0, 0, 0, 0, []), (45, .bipush 35, 0, 0, 0, []), (47, .invokevirtual 94, 66, 1, 4, [3120, 3122, 13, 1005, 3123]), (50, .aload_n 1, 0, 0, 0, []), (51, .aload_n 0, 0, 0, 0, []), (52, .iconst 0, 0, 0, 0, []), (53, .bipush 60, 0, 0, 0, []), (55, .invokevirtual 159, 67, 2, 4, [3161, 3163, 22, 1005, 3164]), (58, .putfield 203, 1, 16, 1, [2063]), (61, .return_, 0, 0, 0, [])]]
def gP78 : List (List gE) := [
  [(0, .aload_n 1, 0, 0, 0, []), (1, .aload_n 0, 0, 0, 0, []), (2, .iconst 0, 0, 0, 0, []), (3, .iconst 2, 0, 0, 0, []), (4, .invokevirtual 159, 67, 2, 4, [3161, 3163, 22, 1005, 3164]), (7, .putfield 191, 1, 3, 1, [2015]), (10, .aload_n 0, 0, 0, 0, []), (11, .bipush 36, 0, 0, 0, []), (13, .invokevirtual 94, 66, 1, 4, [3120, 3122, 13, 1005, 3123]), (16, .aload_n 0, 0, 0, 0, []), (17, .aload_n 1, 0, 0, 0, []), (18, .invokevirtual 206, 79, 1, 4, [3181, 3183, 27, 1005, 3184]), (21, .iconst 0, 0, 0, 0, []), (22, .istore_n 2, 0, 0, 0, []), (23, .iload_n 2, 0, 0, 0, []), (24, .iconst 4, 0, 0, 0, []), (25, .if_icmp .ge 34, 59, 0, 0, []), (28, .aload_n 0, 0, 0, 0, []), (29, .getfield 25, 4, 3, 0, [2113])],
  [(32, .ifCond .ne 27, 59, 0, 0, []), (35, .aload_n 0, 0, 0, 0, []), (36, .getfield 22, 4, 2, 0, [2112]), (39, .iconst 5, 0, 0, 0, []), (40, .if_icmp .ne 19, 59, 0, 0, []), (43, .aload_n 0, 0, 0, 0, []), (44, .iconst 5, 0, 0, 0, []), (45, .invokevirtual 94, 66, 1, 4, [3120, 3122, 13, 1005, 3123]), (48, .aload_n 0, 0, 0, 0, []), (49, .aload_n 1, 0, 0, 0, []), (50, .invokevirtual 206, 79, 1, 4, [3181, 3183, 27, 1005, 3184]), (53, .iinc 2 1, 0, 0, 0, []), (56, .goto (-33), 23, 0, 0, []), (59, .return_, 0, 0, 0, [])]]
def gP79 : List (List gE) := [
  [(0, .aload_n 0, 0, 0, 0, []), (1, .getfield 22, 4, 2, 0, [2112]), (4, .iconst 3, 0, 0, 0, []), (5, .if_icmp .ne 16, 21, 0, 0, []), (8, .aload_n 1, 0, 0, 0, []), (9, .getfield 209, 1, 18, 1, [2069]), (12, .iconst 4, 0, 0, 0, []), (13, .if_icmp .lt 8, 21, 0, 0, []), (16, .aload_n 0, 0, 0, 0, []), (17, .iconst 2, 0, 0, 0, []), (18, .invokevirtual 101, 64, 1, 4, [3116, 3118, 12, 1005, 3119]), (21, .aload_n 1, 0, 0, 0, []), (22, .getfield 212, 1, 17, 1, [2066]), (25, .aload_n 1, 0, 0, 0, []), (26, .getfield 209, 1, 18, 1, [2069]), (29, .aload_n 0, 0, 0, 0, []), (30, .iconst 0, 0, 0, 0, []), (31, .sipush 400, 0, 0, 0, [])],
  [(34, .invokevirtual 159, 67, 2, 4, [3161, 3163, 22, 1005, 3164]), (37, .invokestatic 169, 201, 3, 1, [3185, 1084, 1001, 1085]), (40, .aload_n 1, 0, 0, 0, []), (41, .dup, 0, 0, 0, []), (42, .getfield 209, 1, 18, 1, [2069]), (45, .iconst 1, 0, 0, 0, []), (46, .iadd, 0, 0, 0, []), (47, .putfield 209, 1, 18, 1, [2069]), (50, .return_, 0, 0, 0, [])]]
def gP80 : List (List gE) := [
  [(0, .aload_n 1, 0, 0, 0, []), (1, .aload_n 0, 0, 0, 0, []), (2, .aload_n 0, 0, 0, 0, []), (3, .getfield 12, 4, 0, 0, [2110]), (6, .aload_n 0, 0, 0, 0, []), (7, .getfield 18, 4, 1, 0, [2111]), (10, .invokevirtual 111, 123, 1, 8, [3124, 3126, 14, 1006, 3127]), (13, .invokevirtual 119, 71, 1, 4, [3128, 3130, 15, 1005, 3131]), (16, .putfield 163, 1, 2, 1, [2010]), (19, .aload_n 1, 0, 0, 0, []), (20, .getfield 163, 1, 2, 1, [2010]), (23, .iconst (-1), 0, 0, 0, []), (24, .if_icmp .ne 12, 36, 0, 0, []), (27, .aload_n 0, 0, 0, 0, []), (28, .iconst 4, 0, 0, 0, []), (29, .aload_n 0, 0, 0, 0, []), (30, .getfield 18, 4, 1, 0, [2111])],
  [(33, .invokevirtual 115, 65, 2, 4, [3133, 3135, 16, 1005, 3136]), (36, .aload_n 0, 0, 0, 0, []), (37, .iconst 2, 0, 0, 0, []), (38, .invokevirtual 94, 66, 1, 4, [3120, 3122, 13, 1005, 3123]), (41, .aload_n 0, 0, 0, 0, []), (42, .bipush 26, 0, 0, 0, []), (44, .invokevirtual 94, 66, 1, 4, [3120, 3122, 13, 1005, 3123]), (47, .aload_n 0, 0, 0, 0, []), (48, .aload_n 1, 0, 0, 0, []), (49, .iconst 0, 0, 0, 0, []), (50, .invokevirtual 172, 81, 2, 4, [3165, 3167, 23, 1005, 3168]), (53, .return_, 0, 0, 0, [])]]
def gP81 : List (List gE) := [
  [(0, .iconst (-1), 0, 0, 0, []), (1, .istore_n 3, 0, 0, 0, []), (2, .iconst 0, 0, 0, 0, []), (3, .istore 4, 0, 0, 0, []), (5, .aload_n 0, 0, 0, 0, []), (6, .getfield 22, 4, 2, 0, [2112]), (9, .bipush 37, 0, 0, 0, []), (11, .if_icmp .ne 74, 85, 0, 0, []), (14, .aload_n 0, 0, 0, 0, []), (15, .bipush 37, 0, 0, 0, []), (17, .invokevirtual 94, 66, 1, 4, [3120, 3122, 13, 1005, 3123]), (20, .aload_n 0, 0, 0, 0, []), (21, .iconst 0, 0, 0, 0, []), (22, .bipush 7, 0, 0, 0, []), (24, .invokevirtual 159, 67, 2, 4, [3161, 3163, 22, 1005, 3164]), (27, .istore_n 3, 0, 0, 0, []), (28, .aload_n 0, 0, 0, 0, []), (29, .getfield 22, 4, 2, 0, [2112])],
  [(32, .bipush 6, 0, 0, 0, []), (34, .if_icmp .eq 12, 46, 0, 0, []), (37, .aload_n 0, 0, 0, 0, []), (38, .getfield 22, 4, 2, 0, [2112]), (41, .bipush 7, 0, 0, 0, []), (43, .if_icmp .ne 51, 94, 0, 0, []), (46, .aload_n 0, 0, 0, 0, []), (47, .getfield 22, 4, 2, 0, [2112]), (50, .bipush 6, 0, 0, 0, []), (52, .if_icmp .ne 7, 59, 0, 0, []), (55, .iconst 1, 0, 0, 0, []), (56, .goto 4, 60, 0, 0, []), (59, .iconst (-1), 0, 0, 0, []), (60, .istore 5, 0, 0, 0, []), (62, .aload_n 0, 0, 0, 0, []), (63, .aload_n 0, 0, 0, 0, [])],
  [(64, .getfield 22, 4, 2, 0, [2112]), (67, .invokevirtual 94, 66, 1, 4, [3120, 3122, 13, 1005, 3123]), (70, .iload 5, 0, 0, 0, []), (72, .aload_n 0, 0, 0, 0, []), (73, .iconst 0, 0, 0, 0, []), (74, .bipush 60, 0, 0, 0, []), (76, .invokevirtual 159, 67, 2, 4, [3161, 3163, 22, 1005, 3164]), (79, .imul, 0, 0, 0, []), (80, .istore 4, 0, 0, 0, []), (82, .goto 12, 94, 0, 0, []), (85, .aload_n 0, 0, 0, 0, []), (86, .iconst 0, 0, 0, 0, []), (87, .bipush 60, 0, 0, 0, []), (89, .invokevirtual 159, 67, 2, 4, [3161, 3163, 22, 1005, 3164]), (92, .istore 4, 0, 0, 0, []), (94, .iload_n 2, 0, 0, 0, []), (95, .ifCond .eq 17, 112, 0, 0, [])],
  [(98, .aload_n 1, 0, 0, 0, []), (99, .iload_n 3, 0, 0, 0, []), (100, .putfield 215, 1, 6, 1, [2032]), (103, .aload_n 1, 0, 0, 0, []), (104, .iload 4, 0, 0, 0, []), (106, .putfield 218, 1, 7, 1, [2036]), (109, .goto 14, 123, 0, 0, []), (112, .aload_n 1, 0, 0, 0, []), (113, .iload_n 3, 0, 0, 0, []), (114, .putfield 221, 1, 4, 1, [2021]), (117, .aload_n 1, 0, 0, 0, []), (118, .iload 4, 0, 0, 0, []), (120, .putfield 224, 1, 5, 1, [2026]), (123, .return_, 0, 0, 0, [])]]
def gP82 : List (List gE) := [
  [(0, .aload_n 0, 0, 0, 0, []), (1, .aload_n 1, 0, 0, 0, []), (2, .aload_n 0, 0, 0, 0, []), (3, .getfield 65, 4, 13, 0, [2124]), (6, .iconst (-1), 0, 0, 0, []), (7, .iconst 0, 0, 0, 0, []), (8, .iconst 0, 0, 0, 0, []), (9, .invokestatic 227, 83, 6, 0, [4080, 4081, 1005, 4082]), (12, .return_, 0, 0, 0, [])]]
def gP83 : List (List gE) := [
  [(0, .iload 5, 0, 0, 0, []), (2, .bipush 6, 0, 0, 0, []), (4, .if_icmp .le 4, 8, 0, 0, []), (7, .return_, 0, 0, 0, []), (8, .aload_n 0, 0, 0, 0, []), (9, .getfield 54, 4, 10, 0, [2121]), (12, .iload_n 2, 0, 0, 0, []), (13, .invokestatic 127, 199, 2, 1, [3190, 3072, 1001, 3073]), (16, .istore 6, 0, 0, 0, []), (18, .iconst 0, 0, 0, 0, []), (19, .istore 7, 0, 0, 0, []), (21, .iload 7, 0, 0, 0, []), (23, .iload 6, 0, 0, 0, []), (25, .if_icmp .ge 129, 154, 0, 0, []), (28, .aload_n 0, 0, 0, 0, []), (29, .iload_n 2, 0, 0, 0, []), (30, .iload 7, 0, 0, 0, [])],
  [(32, .invokevirtual 138, 74, 2, 4, [3145, 3147, 18, 1005, 3148]), (35, .astore 8, 0, 0, 0, []), (37, .aload 8, 0, 0, 0, []), (39, .ifnull 24, 63, 0, 0, []), (42, .aload 8, 0, 0, 0, []), (44, .getfield 145, 1, 0, 1, [2002]), (47, .iconst 5, 0, 0, 0, []), (48, .if_icmp .eq 15, 63, 0, 0, []), (51, .aload_n 1, 0, 0, 0, []), (52, .aload 8, 0, 0, 0, []), (54, .iload_n 3, 0, 0, 0, []), (55, .iload 4, 0, 0, 0, []), (57, .invokevirtual 231, 116, 3, 6, [4083, 4085, 52, 1017, 4086]), (60, .goto 88, 148, 0, 0, []), (63, .aload 8, 0, 0, 0, [])],
  [(65, .ifnull 83, 148, 0, 0, []), (68, .aload_n 0, 0, 0, 0, []), (69, .getfield 58, 4, 11, 0, [2122]), (72, .aload 8, 0, 0, 0, []), (74, .getfield 163, 1, 2, 1, [2010]), (77, .invokestatic 127, 199, 2, 1, [3190, 3072, 1001, 3073]), (80, .ifCond .le 68, 148, 0, 0, []), (83, .aload 8, 0, 0, 0, []), (85, .getfield 221, 1, 4, 1, [2021]), (88, .iconst (-1), 0, 0, 0, []), (89, .if_icmp .ne 7, 96, 0, 0, []), (92, .iload_n 3, 0, 0, 0, []), (93, .goto 8, 101, 0, 0, [])],
  [(96, .aload 8, 0, 0, 0, []), (98, .getfield 221, 1, 4, 1, [2021]), (101, .istore 9, 0, 0, 0, []), (103, .aload 8, 0, 0, 0, []), (105, .getfield 221, 1, 4, 1, [2021]), (108, .iconst (-1), 0, 0, 0, []), (109, .if_icmp .ne 14, 123, 0, 0, []), (112, .iload 4, 0, 0, 0, []), (114, .aload 8, 0, 0, 0, []), (116, .getfield 224, 1, 5, 1, [2026]), (119, .iadd, 0, 0, 0, []), (120, .goto 8, 128, 0, 0, []), (123, .aload 8, 0, 0, 0, []), (125, .getfield 224, 1, 5, 1, [2026])],
  [(128, .istore 10, 0, 0, 0, []), (130, .aload_n 0, 0, 0, 0, []), (131, .aload_n 1, 0, 0, 0, []), (132, .aload 8, 0, 0, 0, []), (134, .getfield 163, 1, 2, 1, [2010]), (137, .iload 9, 0, 0, 0, []), (139, .iload 10, 0, 0, 0, []), (141, .iload 5, 0, 0, 0, []), (143, .iconst 1, 0, 0, 0, []), (144, .iadd, 0, 0, 0, []), (145, .invokestatic 227, 83, 6, 0, [4080, 4081, 1005, 4082]), (148, .iinc 7 1, 0, 0, 0, []), (151, .goto (-130), 21, 0, 0, []), (154, .return_, 0, 0, 0, [])]]
def gP84 : List (List gE) := [
  [(0, .aload_n 0, 0, 0, 0, []), (1, .getfield 44, 4, 8, 0, [2119]), (4, .invokevirtual 237, 97, 0, 5, [3199, 3201, 31, 1002, 3202]), (7, .aload_n 0, 0, 0, 0, []), (8, .bipush 19, 0, 0, 0, []), (10, .invokevirtual 94, 66, 1, 4, [3120, 3122, 13, 1005, 3123]), (13, .iconst 0, 0, 0, 0, []), (14, .istore_n 1, 0, 0, 0, []), (15, .iload_n 1, 0, 0, 0, []), (16, .bipush 12, 0, 0, 0, []), (18, .if_icmp .gt 71, 89, 0, 0, []), (21, .aload_n 0, 0, 0, 0, []), (22, .getfield 25, 4, 3, 0, [2113]), (25, .ifCond .ne 64, 89, 0, 0, []), (28, .aload_n 0, 0, 0, 0, []), (29, .getfield 22, 4, 2, 0, [2112])],
  [(32, .invokestatic 240, 85, 1, 0, [3203, 3204, 1005, 3205]), (35, .ifCond .eq 54, 89, 0, 0, []), (38, .aload_n 0, 0, 0, 0, []), (39, .getfield 44, 4, 8, 0, [2119]), (42, .getfield 243, 5, 0, 1, [1038]), (45, .bipush 12, 0, 0, 0, []), (47, .if_icmp .lt 11, 58, 0, 0, []), (50, .aload_n 0, 0, 0, 0, []), (51, .iconst 2, 0, 0, 0, []), (52, .invokevirtual 101, 64, 1, 4, [3116, 3118, 12, 1005, 3119]), (55, .goto 23, 78, 0, 0, []), (58, .aload_n 0, 0, 0, 0, []), (59, .getfield 22, 4, 2, 0, [2112]), (62, .bipush 38, 0, 0, 0, [])],
  [(64, .if_icmp .ne 10, 74, 0, 0, []), (67, .aload_n 0, 0, 0, 0, []), (68, .invokevirtual 246, 87, 0, 4, [3206, 3208, 32, 1005, 3209]), (71, .goto 7, 78, 0, 0, []), (74, .aload_n 0, 0, 0, 0, []), (75, .invokevirtual 249, 86, 0, 4, [4018, 4020, 44, 1005, 4021]), (78, .aload_n 0, 0, 0, 0, []), (79, .iconst 4, 0, 0, 0, []), (80, .invokevirtual 94, 66, 1, 4, [3120, 3122, 13, 1005, 3123]), (83, .iinc 1 1, 0, 0, 0, []), (86, .goto (-71), 15, 0, 0, []), (89, .aload_n 0, 0, 0, 0, []), (90, .bipush 17, 0, 0, 0, []), (92, .invokevirtual 94, 66, 1, 4, [3120, 3122, 13, 1005, 3123]), (95, .return_, 0, 0, 0, [])]]
def gP85 : List (List gE) := [
  [(0, .iload_n 0, 0, 0, 0, []), (1, .bipush 38, 0, 0, 0, []), (3, .if_icmp .eq 9, 12, 0, 0, []), (6, .iload_n 0, 0, 0, 0, []), (7, .bipush 40, 0, 0, 0, []), (9, .if_icmp .ne 7, 16, 0, 0, []), (12, .iconst 1, 0, 0, 0, []), (13, .goto 4, 17, 0, 0, []), (16, .iconst 0, 0, 0, 0, []), (17, .ireturn, 0, 0, 0, [])]]
def gP86 : List (List gE) := [
  [(0, .aload_n 0, 0, 0, 0, []), (1, .bipush 40, 0, 0, 0, []), (3, .invokevirtual 94, 66, 1, 4, [3120, 3122, 13, 1005, 3123]), (6, .aload_n 0, 0, 0, 0, []), (7, .iconst 0, 0, 0, 0, []), (8, .sipush 9999, 0, 0, 0, []), (11, .invokevirtual 159, 67, 2, 4, [3161, 3163, 22, 1005, 3164]), (14, .istore_n 1, 0, 0, 0, []), (15, .aload_n 0, 0, 0, 0, []), (16, .bipush 41, 0, 0, 0, []), (18, .invokevirtual 94, 66, 1, 4, [3120, 3122, 13, 1005, 3123]), (21, .aload_n 0, 0, 0, 0, []), (22, .iconst 1, 0, 0, 0, []), (23, .bipush 60, 0, 0, 0, []), (25, .invokevirtual 159, 67, 2, 4, [3161, 3163, 22, 1005, 3164]), (28, .istore_n 2, 0, 0, 0, []), (29, .aload_n 0, 0, 0, 0, []), (30, .getfield 44, 4, 8, 0, [2119])],
  [(33, .invokevirtual 252, 99, 0, 5, [3210, 3212, 33, 1002, 3213]), (36, .aload_n 0, 0, 0, 0, []), (37, .getfield 44, 4, 8, 0, [2119]), (40, .iload_n 1, 0, 0, 0, []), (41, .iload_n 2, 0, 0, 0, []), (42, .invokevirtual 255, 102, 2, 5, [4022, 4024, 45, 1002, 4025]), (45, .return_, 0, 0, 0, [])]]
def gP87 : List (List gE) := [
  [(0, .aload_n 0, 0, 0, 0, []), (1, .bipush 38, 0, 0, 0, []), (3, .invokevirtual 94, 66, 1, 4, [3120, 3122, 13, 1005, 3123]), (6, .aload_n 0, 0, 0, 0, []), (7, .getfield 44, 4, 8, 0, [2119]), (10, .invokevirtual 252, 99, 0, 5, [3210, 3212, 33, 1002, 3213]), (13, .aload_n 0, 0, 0, 0, []), (14, .invokevirtual 258, 92, 0, 4, [3215, 3217, 34, 1005, 3218]), (17, .aload_n 0, 0, 0, 0, []), (18, .getfield 44, 4, 8, 0, [2119]), (21, .invokevirtual 261, 100, 0, 5, [3234, 3236, 38, 1002, 3237]), (24, .aload_n 0, 0, 0, 0, []), (25, .getfield 22, 4, 2, 0, [2112]), (28, .bipush 39, 0, 0, 0, []), (30, .if_icmp .ne 13, 43, 0, 0, [])],
  [(33, .aload_n 0, 0, 0, 0, []), (34, .bipush 39, 0, 0, 0, []), (36, .invokevirtual 94, 66, 1, 4, [3120, 3122, 13, 1005, 3123]), (39, .aload_n 0, 0, 0, 0, []), (40, .invokevirtual 264, 88, 0, 4, [3238, 4000, 39, 1005, 4001]), (43, .aload_n 0, 0, 0, 0, []), (44, .getfield 44, 4, 8, 0, [2119]), (47, .invokevirtual 267, 101, 0, 5, [4014, 4016, 43, 1002, 4017]), (50, .return_, 0, 0, 0, [])]]
def gP88 : List (List gE) := [
  [(0, .iconst 0, 0, 0, 0, []), (1, .istore_n 1, 0, 0, 0, []), (2, .iconst 0, 0, 0, 0, []), (3, .istore_n 2, 0, 0, 0, []), (4, .iconst 1, 0, 0, 0, []), (5, .istore_n 3, 0, 0, 0, []), (6, .iconst 0, 0, 0, 0, []), (7, .istore 4, 0, 0, 0, []), (9, .iload 4, 0, 0, 0, []), (11, .sipush 500, 0, 0, 0, []), (14, .if_icmp .gt 150, 164, 0, 0, []), (17, .aload_n 0, 0, 0, 0, []), (18, .getfield 25, 4, 3, 0, [2113]), (21, .ifCond .ne 143, 164, 0, 0, []), (24, .iload_n 3, 0, 0, 0, []), (25, .ifCond .eq 139, 164, 0, 0, []), (28, .aload_n 0, 0, 0, 0, []), (29, .invokevirtual 270, 89, 0, 4, [4002, 4004, 40, 1005, 4005])],
  [(32, .istore 5, 0, 0, 0, []), (34, .aload_n 0, 0, 0, 0, []), (35, .invokevirtual 258, 92, 0, 4, [3215, 3217, 34, 1005, 3218]), (38, .aload_n 0, 0, 0, 0, []), (39, .invokevirtual 274, 90, 0, 4, [4006, 4008, 41, 1005, 4009]), (42, .istore 6, 0, 0, 0, []), (44, .aload_n 0, 0, 0, 0, []), (45, .invokevirtual 258, 92, 0, 4, [3215, 3217, 34, 1005, 3218]), (48, .aload_n 0, 0, 0, 0, []), (49, .iload 6, 0, 0, 0, []), (51, .iload 5, 0, 0, 0, []), (53, .invokevirtual 278, 91, 2, 4, [4010, 4012, 42, 1005, 4013]), (56, .iload_n 2, 0, 0, 0, []), (57, .ifCond .eq 13, 70, 0, 0, []), (60, .aload_n 0, 0, 0, 0, []), (61, .getfield 44, 4, 8, 0, [2119])],
  [(64, .sipush 10043, 0, 0, 0, []), (67, .invokevirtual 282, 98, 1, 5, [3223, 3225, 36, 1002, 3226]), (70, .aload_n 0, 0, 0, 0, []), (71, .getfield 22, 4, 2, 0, [2112]), (74, .bipush 43, 0, 0, 0, []), (76, .if_icmp .ne 7, 83, 0, 0, []), (79, .iconst 1, 0, 0, 0, []), (80, .goto 4, 84, 0, 0, []), (83, .iconst 0, 0, 0, 0, []), (84, .istore_n 2, 0, 0, 0, []), (85, .iload_n 2, 0, 0, 0, []), (86, .ifCond .ne 19, 105, 0, 0, []), (89, .iload_n 1, 0, 0, 0, []), (90, .ifCond .eq 15, 105, 0, 0, []), (93, .aload_n 0, 0, 0, 0, []), (94, .getfield 44, 4, 8, 0, [2119])],
  [(97, .sipush 10042, 0, 0, 0, []), (100, .invokevirtual 282, 98, 1, 5, [3223, 3225, 36, 1002, 3226]), (103, .iconst 0, 0, 0, 0, []), (104, .istore_n 1, 0, 0, 0, []), (105, .iload_n 1, 0, 0, 0, []), (106, .aload_n 0, 0, 0, 0, []), (107, .getfield 22, 4, 2, 0, [2112]), (110, .bipush 42, 0, 0, 0, []), (112, .if_icmp .ne 7, 119, 0, 0, []), (115, .iconst 1, 0, 0, 0, []), (116, .goto 4, 120, 0, 0, []), (119, .iconst 0, 0, 0, 0, []), (120, .ior, 0, 0, 0, []), (121, .istore_n 1, 0, 0, 0, []), (122, .aload_n 0, 0, 0, 0, []), (123, .getfield 22, 4, 2, 0, [2112]), (126, .bipush 43, 0, 0, 0, [])],
  [(128, .if_icmp .eq 12, 140, 0, 0, []), (131, .aload_n 0, 0, 0, 0, []), (132, .getfield 22, 4, 2, 0, [2112]), (135, .bipush 42, 0, 0, 0, []), (137, .if_icmp .ne 7, 144, 0, 0, []), (140, .iconst 1, 0, 0, 0, []), (141, .goto 4, 145, 0, 0, []), (144, .iconst 0, 0, 0, 0, []), (145, .istore_n 3, 0, 0, 0, []), (146, .iload_n 3, 0, 0, 0, []), (147, .ifCond .eq 11, 158, 0, 0, []), (150, .aload_n 0, 0, 0, 0, []), (151, .aload_n 0, 0, 0, 0, []), (152, .getfield 22, 4, 2, 0, [2112]), (155, .invokevirtual 94, 66, 1, 4, [3120, 3122, 13, 1005, 3123]), (158, .iinc 4 1, 0, 0, 0, [])],
  [(161, .goto (-152), 9, 0, 0, []), (164, .return_, 0, 0, 0, [])]]
def gP89 : List (List gE) := [
  [(0, .iconst 0, 0, 0, 0, []), (1, .istore_n 1, 0, 0, 0, []), (2, .iconst 0, 0, 0, 0, []), (3, .istore_n 2, 0, 0, 0, []), (4, .iload_n 2, 0, 0, 0, []), (5, .sipush 500, 0, 0, 0, []), (8, .if_icmp .gt 41, 49, 0, 0, []), (11, .aload_n 0, 0, 0, 0, []), (12, .getfield 25, 4, 3, 0, [2113]), (15, .ifCond .ne 34, 49, 0, 0, []), (18, .aload_n 0, 0, 0, 0, []), (19, .getfield 22, 4, 2, 0, [2112]), (22, .bipush 44, 0, 0, 0, []), (24, .if_icmp .ne 25, 49, 0, 0, []), (27, .aload_n 0, 0, 0, 0, []), (28, .bipush 44, 0, 0, 0, []), (30, .invokevirtual 94, 66, 1, 4, [3120, 3122, 13, 1005, 3123])],
  [(33, .iload_n 1, 0, 0, 0, []), (34, .ifCond .ne 7, 41, 0, 0, []), (37, .iconst 1, 0, 0, 0, []), (38, .goto 4, 42, 0, 0, []), (41, .iconst 0, 0, 0, 0, []), (42, .istore_n 1, 0, 0, 0, []), (43, .iinc 2 1, 0, 0, 0, []), (46, .goto (-42), 4, 0, 0, []), (49, .iload_n 1, 0, 0, 0, []), (50, .ireturn, 0, 0, 0, [])]]
def gP90 : List (List gE) := [
  [(0, .aload_n 0, 0, 0, 0, []), (1, .getfield 22, 4, 2, 0, [2112]), (4, .istore_n 1, 0, 0, 0, []), (5, .iload_n 1, 0, 0, 0, []), (6, .bipush 12, 0, 0, 0, []), (8, .if_icmp .lt 9, 17, 0, 0, []), (11, .iload_n 1, 0, 0, 0, []), (12, .bipush 15, 0, 0, 0, []), (14, .if_icmp .le 8, 22, 0, 0, []), (17, .aload_n 0, 0, 0, 0, []), (18, .iconst 1, 0, 0, 0, []), (19, .invokevirtual 101, 64, 1, 4, [3116, 3118, 12, 1005, 3119]), (22, .aload_n 0, 0, 0, 0, []), (23, .iload_n 1, 0, 0, 0, []), (24, .invokevirtual 94, 66, 1, 4, [3120, 3122, 13, 1005, 3123]), (27, .iload_n 1, 0, 0, 0, []), (28, .ireturn, 0, 0, 0, [])]]
def gP91 : List (List gE) := [
  [(0, .aload_n 0, 0, 0, 0, []), (1, .getfield 44, 4, 8, 0, [2119]), (4, .sipush 10000, 0, 0, 0, []), (7, .iload_n 1, 0, 0, 0, []), (8, .iadd, 0, 0, 0, []), (9, .invokevirtual 282, 98, 1, 5, [3223, 3225, 36, 1002, 3226]), (12, .iload_n 2, 0, 0, 0, []), (13, .ifCond .eq 13, 26, 0, 0, []), (16, .aload_n 0, 0, 0, 0, []), (17, .getfield 44, 4, 8, 0, [2119]), (20, .sipush 10044, 0, 0, 0, []), (23, .invokevirtual 282, 98, 1, 5, [3223, 3225, 36, 1002, 3226]), (26, .return_, 0, 0, 0, [])]]
def gP92 : List (List gE) := [
  [(0, .iconst 0, 0, 0, 0, []), (1, .istore_n 1, 0, 0, 0, []), (2, .iconst 1, 0, 0, 0, []), (3, .istore_n 2, 0, 0, 0, []), (4, .iconst 1, 0, 0, 0, []), (5, .istore_n 3, 0, 0, 0, []), (6, .aload_n 0, 0, 0, 0, []), (7, .iconst 0, 0, 0, 0, []), (8, .putfield 71, 4, 15, 0, [2126]), (11, .iconst 0, 0, 0, 0, []), (12, .istore 4, 0, 0, 0, []), (14, .iload 4, 0, 0, 0, []), (16, .sipush 500, 0, 0, 0, []), (19, .if_icmp .gt 239, 258, 0, 0, []), (22, .aload_n 0, 0, 0, 0, []), (23, .getfield 25, 4, 3, 0, [2113]), (26, .ifCond .ne 232, 258, 0, 0, []), (29, .iload_n 3, 0, 0, 0, []), (30, .ifCond .eq 228, 258, 0, 0, [])],
  [(33, .aload_n 0, 0, 0, 0, []), (34, .getfield 22, 4, 2, 0, [2112]), (37, .istore 5, 0, 0, 0, []), (39, .iload_n 2, 0, 0, 0, []), (40, .ifCond .eq 26, 66, 0, 0, []), (43, .aload_n 0, 0, 0, 0, []), (44, .getfield 22, 4, 2, 0, [2112]), (47, .bipush 10, 0, 0, 0, []), (49, .if_icmp .ne 17, 66, 0, 0, []), (52, .iinc 1 1, 0, 0, 0, []), (55, .aload_n 0, 0, 0, 0, []), (56, .aload_n 0, 0, 0, 0, []), (57, .getfield 22, 4, 2, 0, [2112]), (60, .invokevirtual 285, 94, 1, 4, [3219, 3221, 35, 1005, 3222]), (63, .goto 165, 228, 0, 0, [])],
  [(66, .iload_n 2, 0, 0, 0, []), (67, .ifCond .eq 83, 150, 0, 0, []), (70, .aload_n 0, 0, 0, 0, []), (71, .getfield 22, 4, 2, 0, [2112]), (74, .bipush 45, 0, 0, 0, []), (76, .if_icmp .lt 16, 92, 0, 0, []), (79, .aload_n 0, 0, 0, 0, []), (80, .getfield 22, 4, 2, 0, [2112]), (83, .bipush 49, 0, 0, 0, []), (85, .if_icmp .gt 7, 92, 0, 0, []), (88, .iconst 1, 0, 0, 0, []), (89, .goto 4, 93, 0, 0, []), (92, .iconst 0, 0, 0, 0, []), (93, .istore 6, 0, 0, 0, []), (95, .aload_n 0, 0, 0, 0, [])],
  [(96, .getfield 44, 4, 8, 0, [2119]), (99, .iload 6, 0, 0, 0, []), (101, .ifCond .eq 14, 115, 0, 0, []), (104, .sipush 10000, 0, 0, 0, []), (107, .aload_n 0, 0, 0, 0, []), (108, .getfield 22, 4, 2, 0, [2112]), (111, .iadd, 0, 0, 0, []), (112, .goto 15, 127, 0, 0, []), (115, .aload_n 0, 0, 0, 0, []), (116, .getfield 12, 4, 0, 0, [2110]), (119, .aload_n 0, 0, 0, 0, []), (120, .getfield 18, 4, 1, 0, [2111]), (123, .invokevirtual 111, 123, 1, 8, [3124, 3126, 14, 1006, 3127]), (126, .l2i, 0, 0, 0, []), (127, .invokevirtual 282, 98, 1, 5, [3223, 3225, 36, 1002, 3226])],
  [(130, .iload 6, 0, 0, 0, []), (132, .ifCond .eq 10, 142, 0, 0, []), (135, .aload_n 0, 0, 0, 0, []), (136, .getfield 22, 4, 2, 0, [2112]), (139, .goto 4, 143, 0, 0, []), (142, .iconst 3, 0, 0, 0, []), (143, .istore 5, 0, 0, 0, []), (145, .iconst 0, 0, 0, 0, []), (146, .istore_n 2, 0, 0, 0, []), (147, .goto 81, 228, 0, 0, []), (150, .aload_n 0, 0, 0, 0, []), (151, .getfield 22, 4, 2, 0, [2112]), (154, .bipush 11, 0, 0, 0, []), (156, .if_icmp .ne 28, 184, 0, 0, []), (159, .iload_n 1, 0, 0, 0, [])],
  [(160, .ifCond .le 24, 184, 0, 0, []), (163, .aload_n 0, 0, 0, 0, []), (164, .iconst 1, 0, 0, 0, []), (165, .invokevirtual 287, 95, 1, 4, [3227, 3229, 37, 1005, 3230]), (168, .aload_n 0, 0, 0, 0, []), (169, .dup, 0, 0, 0, []), (170, .getfield 71, 4, 15, 0, [2126]), (173, .iconst 1, 0, 0, 0, []), (174, .isub, 0, 0, 0, []), (175, .putfield 71, 4, 15, 0, [2126]), (178, .iinc 1 (-1), 0, 0, 0, []), (181, .goto 47, 228, 0, 0, []), (184, .aload_n 0, 0, 0, 0, []), (185, .getfield 22, 4, 2, 0, [2112]), (188, .bipush 6, 0, 0, 0, []), (190, .if_icmp .lt 36, 226, 0, 0, [])],
  [(193, .aload_n 0, 0, 0, 0, []), (194, .getfield 22, 4, 2, 0, [2112]), (197, .bipush 9, 0, 0, 0, []), (199, .if_icmp .gt 27, 226, 0, 0, []), (202, .aload_n 0, 0, 0, 0, []), (203, .aload_n 0, 0, 0, 0, []), (204, .getfield 22, 4, 2, 0, [2112]), (207, .invokestatic 290, 93, 1, 0, [3231, 3232, 1005, 3233]), (210, .invokevirtual 287, 95, 1, 4, [3227, 3229, 37, 1005, 3230]), (213, .aload_n 0, 0, 0, 0, []), (214, .aload_n 0, 0, 0, 0, []), (215, .getfield 22, 4, 2, 0, [2112]), (218, .invokevirtual 285, 94, 1, 4, [3219, 3221, 35, 1005, 3222]), (221, .iconst 1, 0, 0, 0, []), (222, .istore_n 2, 0, 0, 0, []), (223, .goto 5, 228, 0, 0, [])],
  [(226, .iconst 0, 0, 0, 0, []), (227, .istore_n 3, 0, 0, 0, []), (228, .iload_n 1, 0, 0, 0, []), (229, .bipush 6, 0, 0, 0, []), (231, .if_icmp .le 11, 242, 0, 0, []), (234, .aload_n 0, 0, 0, 0, []), (235, .iconst 2, 0, 0, 0, []), (236, .invokevirtual 101, 64, 1, 4, [3116, 3118, 12, 1005, 3119]), (239, .goto 13, 252, 0, 0, []), (242, .iload_n 3, 0, 0, 0, []), (243, .ifCond .eq 9, 252, 0, 0, []), (246, .aload_n 0, 0, 0, 0, []), (247, .iload 5, 0, 0, 0, []), (249, .invokevirtual 94, 66, 1, 4, [3120, 3122, 13, 1005, 3123]), (252, .iinc 4 1, 0, 0, 0, []), (255, .goto (-241), 14, 0, 0, [])],
  [(258, .iload_n 1, 0, 0, 0, []), (259, .ifCond .le 8, 267, 0, 0, []), (262, .aload_n 0, 0, 0, 0, []), (263, .iconst 1, 0, 0, 0, []), (264, .invokevirtual 101, 64, 1, 4, [3116, 3118, 12, 1005, 3119]), (267, .aload_n 0, 0, 0, 0, []), (268, .iconst 1, 0, 0, 0, []), (269, .invokevirtual 287, 95, 1, 4, [3227, 3229, 37, 1005, 3230]), (272, .return_, 0, 0, 0, [])]]
def gP93 : List (List gE) := [
  [(0, .iload_n 0, 0, 0, 0, []), (1, .bipush 10, 0, 0, 0, []), (3, .if_icmp .ne 5, 8, 0, 0, []), (6, .iconst 0, 0, 0, 0, []), (7, .ireturn, 0, 0, 0, []), (8, .iload_n 0, 0, 0, 0, []), (9, .bipush 8, 0, 0, 0, []), (11, .if_icmp .eq 9, 20, 0, 0, []), (14, .iload_n 0, 0, 0, 0, []), (15, .bipush 9, 0, 0, 0, []), (17, .if_icmp .ne 7, 24, 0, 0, []), (20, .iconst 2, 0, 0, 0, []), (21, .goto 4, 25, 0, 0, []), (24, .iconst 1, 0, 0, 0, []), (25, .ireturn, 0, 0, 0, [])]]
def gP94 : List (List gE) := [
  [(0, .aload_n 0, 0, 0, 0, []), (1, .getfield 68, 4, 14, 0, [2125]), (4, .aload_n 0, 0, 0, 0, []), (5, .getfield 71, 4, 15, 0, [2126]), (8, .iload_n 1, 0, 0, 0, []), (9, .invokestatic 169, 201, 3, 1, [3185, 1084, 1001, 1085]), (12, .aload_n 0, 0, 0, 0, []), (13, .dup, 0, 0, 0, []), (14, .getfield 71, 4, 15, 0, [2126]), (17, .iconst 1, 0, 0, 0, []), (18, .iadd, 0, 0, 0, []), (19, .putfield 71, 4, 15, 0, [2126]), (22, .return_, 0, 0, 0, [])]]
def gP95 : List (List gE) := [
  [(0, .aload_n 0, 0, 0, 0, []), (1, .getfield 71, 4, 15, 0, [2126]), (4, .ifCond .le 58, 62, 0, 0, []), (7, .aload_n 0, 0, 0, 0, []), (8, .getfield 68, 4, 14, 0, [2125]), (11, .aload_n 0, 0, 0, 0, []), (12, .getfield 71, 4, 15, 0, [2126]), (15, .iconst 1, 0, 0, 0, []), (16, .isub, 0, 0, 0, []), (17, .invokestatic 127, 199, 2, 1, [3190, 3072, 1001, 3073]), (20, .invokestatic 290, 93, 1, 0, [3231, 3232, 1005, 3233]), (23, .iload_n 1, 0, 0, 0, []), (24, .if_icmp .lt 38, 62, 0, 0, []), (27, .aload_n 0, 0, 0, 0, []), (28, .dup, 0, 0, 0, []), (29, .getfield 71, 4, 15, 0, [2126])],
  [(32, .iconst 1, 0, 0, 0, []), (33, .isub, 0, 0, 0, []), (34, .putfield 71, 4, 15, 0, [2126]), (37, .aload_n 0, 0, 0, 0, []), (38, .getfield 44, 4, 8, 0, [2119]), (41, .sipush 10000, 0, 0, 0, []), (44, .aload_n 0, 0, 0, 0, []), (45, .getfield 68, 4, 14, 0, [2125]), (48, .aload_n 0, 0, 0, 0, []), (49, .getfield 71, 4, 15, 0, [2126]), (52, .invokestatic 127, 199, 2, 1, [3190, 3072, 1001, 3073]), (55, .iadd, 0, 0, 0, []), (56, .invokevirtual 282, 98, 1, 5, [3223, 3225, 36, 1002, 3226]), (59, .goto (-59), 0, 0, 0, []), (62, .return_, 0, 0, 0, [])]]
def gP96 : List (List gE) := [
  [(0, .aload_n 0, 0, 0, 0, []), (1, .invokespecial 3, 9999, 0, 0, [1036, 1027, 1028]), (4, .aload_n 0, 0, 0, 0, []), (5, .iconst 0, 0, 0, 0, []), (6, .putfield 9, 5, 0, 0, [1037]), (9, .aload_n 0, 0, 0, 0, []), (10, .sipush 1000, 0, 0, 0, []), (13, .newarray .int, 0, 0, 0, [1076]), (15, .putfield 17, 5, 1, 0, [1040]), (18, .aload_n 0, 0, 0, 0, []), (19, .iconst 0, 0, 0, 0, []), (20, .putfield 21, 5, 2, 0, [1041]), (23, .aload_n 0, 0, 0, 0, []), (24, .bipush 12, 0, 0, 0, []), (26, .newarray .int, 0, 0, 0, [1076]), (28, .putfield 24, 5, 3, 0, [1042]), (31, .aload_n 0, 0, 0, 0, [])],
  [(32, .bipush 12, 0, 0, 0, []), (34, .newarray .int, 0, 0, 0, [1076]), (36, .putfield 27, 5, 4, 0, [1043]), (39, .aload_n 0, 0, 0, 0, []), (40, .bipush 12, 0, 0, 0, []), (42, .newarray .int, 0, 0, 0, [1076]), (44, .putfield 30, 5, 5, 0, [1044]), (47, .aload_n 0, 0, 0, 0, []), (48, .bipush 12, 0, 0, 0, []), (50, .newarray .int, 0, 0, 0, [1076]), (52, .putfield 33, 5, 6, 0, [1045]), (55, .aload_n 0, 0, 0, 0, []), (56, .bipush 12, 0, 0, 0, []), (58, .newarray .int, 0, 0, 0, [1076]), (60, .putfield 36, 5, 7, 0, [1046]), (63, .aload_n 0, 0, 0, 0, [])],
  [(64, .iconst 5, 0, 0, 0, []), (65, .newarray .int, 0, 0, 0, [1076]), (67, .putfield 39, 5, 8, 0, [1047]), (70, .aload_n 0, 0, 0, 0, []), (71, .bipush 64, 0, 0, 0, []), (73, .newarray .int, 0, 0, 0, [1076]), (75, .putfield 42, 5, 9, 0, [1048]), (78, .aload_n 0, 0, 0, 0, []), (79, .iconst 0, 0, 0, 0, []), (80, .putfield 45, 5, 10, 0, [1049]), (83, .aload_n 0, 0, 0, 0, []), (84, .iconst 0, 0, 0, 0, []), (85, .putfield 48, 5, 11, 0, [1050]), (88, .return_, 0, 0, 0, [])]]
def gP97 : List (List gE) := [
  [(0, .aload_n 0, 0, 0, 0, []), (1, .iconst 0, 0, 0, 0, []), (2, .putfield 9, 5, 0, 0, [1037]), (5, .aload_n 0, 0, 0, 0, []), (6, .iconst 0, 0, 0, 0, []), (7, .putfield 21, 5, 2, 0, [1041]), (10, .return_, 0, 0, 0, [])]]
def gP98 : List (List gE) := [
  [(0, .aload_n 0, 0, 0, 0, []), (1, .getfield 21, 5, 2, 0, [1041]), (4, .ifCond .lt 35, 39, 0, 0, []), (7, .aload_n 0, 0, 0, 0, []), (8, .getfield 21, 5, 2, 0, [1041]), (11, .aload_n 0, 0, 0, 0, []), (12, .getfield 17, 5, 1, 0, [1040]), (15, .arraylength, 0, 0, 0, []), (16, .if_icmp .ge 23, 39, 0, 0, []), (19, .aload_n 0, 0, 0, 0, []), (20, .getfield 17, 5, 1, 0, [1040]), (23, .aload_n 0, 0, 0, 0, []), (24, .getfield 21, 5, 2, 0, [1041]), (27, .iload_n 1, 0, 0, 0, []), (28, .iastore, 0, 0, 0, []), (29, .aload_n 0, 0, 0, 0, []), (30, .dup, 0, 0, 0, []), (31, .getfield 21, 5, 2, 0, [1041])],
  [(34, .iconst 1, 0, 0, 0, []), (35, .iadd, 0, 0, 0, []), (36, .putfield 21, 5, 2, 0, [1041]), (39, .return_, 0, 0, 0, [])]]
def gP99 : List (List gE) := [
  [(0, .aload_n 0, 0, 0, 0, []), (1, .getfield 24, 5, 3, 0, [1042]), (4, .aload_n 0, 0, 0, 0, []), (5, .getfield 9, 5, 0, 0, [1037]), (8, .aload_n 0, 0, 0, 0, []), (9, .getfield 21, 5, 2, 0, [1041]), (12, .invokestatic 52, 201, 3, 1, [3214, 1084, 1001, 1085]), (15, .return_, 0, 0, 0, [])]]
def gP100 : List (List gE) := [
  [(0, .aload_n 0, 0, 0, 0, []), (1, .getfield 27, 5, 4, 0, [1043]), (4, .aload_n 0, 0, 0, 0, []), (5, .getfield 9, 5, 0, 0, [1037]), (8, .aload_n 0, 0, 0, 0, []), (9, .getfield 21, 5, 2, 0, [1041]), (12, .invokestatic 52, 201, 3, 1, [3214, 1084, 1001, 1085]), (15, .return_, 0, 0, 0, [])]]
def gP101 : List (List gE) := [
  [(0, .aload_n 0, 0, 0, 0, []), (1, .getfield 30, 5, 5, 0, [1044]), (4, .aload_n 0, 0, 0, 0, []), (5, .getfield 9, 5, 0, 0, [1037]), (8, .aload_n 0, 0, 0, 0, []), (9, .getfield 21, 5, 2, 0, [1041]), (12, .invokestatic 52, 201, 3, 1, [3214, 1084, 1001, 1085]), (15, .aload_n 0, 0, 0, 0, []), (16, .getfield 36, 5, 7, 0, [1046]), (19, .aload_n 0, 0, 0, 0, []), (20, .getfield 9, 5, 0, 0, [1037]), (23, .iconst 0, 0, 0, 0, []), (24, .invokestatic 52, 201, 3, 1, [3214, 1084, 1001, 1085]), (27, .aload_n 0, 0, 0, 0, []), (28, .dup, 0, 0, 0, []), (29, .getfield 9, 5, 0, 0, [1037])],
  [(32, .iconst 1, 0, 0, 0, []), (33, .iadd, 0, 0, 0, []), (34, .putfield 9, 5, 0, 0, [1037]), (37, .return_, 0, 0, 0, [])]]
def gP102 : List (List gE) := [
  [(0, .aload_n 0, 0, 0, 0, []), (1, .getfield 33, 5, 6, 0, [1045]), (4, .aload_n 0, 0, 0, 0, []), (5, .getfield 9, 5, 0, 0, [1037]), (8, .iload_n 1, 0, 0, 0, []), (9, .invokestatic 52, 201, 3, 1, [3214, 1084, 1001, 1085]), (12, .aload_n 0, 0, 0, 0, []), (13, .getfield 36, 5, 7, 0, [1046]), (16, .aload_n 0, 0, 0, 0, []), (17, .getfield 9, 5, 0, 0, [1037]), (20, .iload_n 2, 0, 0, 0, []), (21, .invokestatic 52, 201, 3, 1, [3214, 1084, 1001, 1085]), (24, .aload_n 0, 0, 0, 0, []), (25, .dup, 0, 0, 0, []), (26, .getfield 9, 5, 0, 0, [1037]), (29, .iconst 1, 0, 0, 0, []), (30, .iadd, 0, 0, 0, []), (31, .putfield 9, 5, 0, 0, [1037])],
  [(34, .return_, 0, 0, 0, [])]]
def gP103 : List (List gE) := [
  [(0, .iconst 0, 0, 0, 0, []), (1, .istore_n 1, 0, 0, 0, []), (2, .iload_n 1, 0, 0, 0, []), (3, .aload_n 0, 0, 0, 0, []), (4, .getfield 9, 5, 0, 0, [1037]), (7, .if_icmp .ge 22, 29, 0, 0, []), (10, .aload_n 0, 0, 0, 0, []), (11, .getfield 36, 5, 7, 0, [1046]), (14, .iload_n 1, 0, 0, 0, []), (15, .invokestatic 56, 199, 2, 1, [6120, 3072, 1001, 3073]), (18, .ifCond .le 5, 23, 0, 0, []), (21, .iload_n 1, 0, 0, 0, []), (22, .ireturn, 0, 0, 0, []), (23, .iinc 1 1, 0, 0, 0, []), (26, .goto (-24), 2, 0, 0, []), (29, .iconst (-1), 0, 0, 0, []), (30, .ireturn, 0, 0, 0, [])]]
def gP104 : List (List gE) := [
  [(0, .aload_n 0, 0, 0, 0, []), (1, .getfield 33, 5, 6, 0, [1045]), (4, .iload_n 1, 0, 0, 0, []), (5, .invokestatic 56, 199, 2, 1, [6120, 3072, 1001, 3073]), (8, .ireturn, 0, 0, 0, [])]]
def gP105 : List (List gE) := [
  [(0, .aload_n 0, 0, 0, 0, []), (1, .getfield 36, 5, 7, 0, [1046]), (4, .iload_n 1, 0, 0, 0, []), (5, .invokestatic 56, 199, 2, 1, [6120, 3072, 1001, 3073]), (8, .ireturn, 0, 0, 0, [])]]
def gP106 : List (List gE) := [
  [(0, .aload_n 0, 0, 0, 0, []), (1, .getfield 39, 5, 8, 0, [1047]), (4, .iload_n 1, 0, 0, 0, []), (5, .bipush 45, 0, 0, 0, []), (7, .isub, 0, 0, 0, []), (8, .iload_n 2, 0, 0, 0, []), (9, .invokestatic 52, 201, 3, 1, [3214, 1084, 1001, 1085]), (12, .return_, 0, 0, 0, [])]]
def gP107 : List (List gE) := [
  [(0, .iconst 0, 0, 0, 0, []), (1, .istore_n 1, 0, 0, 0, []), (2, .iload_n 1, 0, 0, 0, []), (3, .aload_n 0, 0, 0, 0, []), (4, .getfield 9, 5, 0, 0, [1037]), (7, .if_icmp .ge 119, 126, 0, 0, []), (10, .aload_n 0, 0, 0, 0, []), (11, .getfield 36, 5, 7, 0, [1046]), (14, .iload_n 1, 0, 0, 0, []), (15, .invokestatic 56, 199, 2, 1, [6120, 3072, 1001, 3073]), (18, .ifCond .ne 102, 120, 0, 0, []), (21, .aload_n 0, 0, 0, 0, []), (22, .iconst 0, 0, 0, 0, []), (23, .putfield 48, 5, 11, 0, [1050]), (26, .aload_n 0, 0, 0, 0, []), (27, .aload_n 0, 0, 0, 0, []), (28, .getfield 24, 5, 3, 0, [1042]), (31, .iload_n 1, 0, 0, 0, [])],
  [(32, .invokestatic 56, 199, 2, 1, [6120, 3072, 1001, 3073]), (35, .aload_n 0, 0, 0, 0, []), (36, .getfield 27, 5, 4, 0, [1043]), (39, .iload_n 1, 0, 0, 0, []), (40, .invokestatic 56, 199, 2, 1, [6120, 3072, 1001, 3073]), (43, .invokevirtual 60, 108, 2, 5, [6215, 6217, 128, 1002, 6218]), (46, .istore_n 2, 0, 0, 0, []), (47, .aload_n 0, 0, 0, 0, []), (48, .getfield 27, 5, 4, 0, [1043]), (51, .iload_n 1, 0, 0, 0, []), (52, .invokestatic 56, 199, 2, 1, [6120, 3072, 1001, 3073]), (55, .aload_n 0, 0, 0, 0, []), (56, .getfield 30, 5, 5, 0, [1044]), (59, .iload_n 1, 0, 0, 0, []), (60, .invokestatic 56, 199, 2, 1, [6120, 3072, 1001, 3073]), (63, .if_icmp .ne 7, 70, 0, 0, [])],
  [(66, .iconst 1, 0, 0, 0, []), (67, .goto 4, 71, 0, 0, []), (70, .iconst 0, 0, 0, 0, []), (71, .istore_n 3, 0, 0, 0, []), (72, .iload_n 3, 0, 0, 0, []), (73, .ifCond .ne 26, 99, 0, 0, []), (76, .aload_n 0, 0, 0, 0, []), (77, .aload_n 0, 0, 0, 0, []), (78, .getfield 27, 5, 4, 0, [1043]), (81, .iload_n 1, 0, 0, 0, []), (82, .invokestatic 56, 199, 2, 1, [6120, 3072, 1001, 3073]), (85, .aload_n 0, 0, 0, 0, []), (86, .getfield 30, 5, 5, 0, [1044]), (89, .iload_n 1, 0, 0, 0, []), (90, .invokestatic 56, 199, 2, 1, [6120, 3072, 1001, 3073]), (93, .invokevirtual 60, 108, 2, 5, [6215, 6217, 128, 1002, 6218])],
  [(96, .ifCond .eq 7, 103, 0, 0, []), (99, .iconst 1, 0, 0, 0, []), (100, .goto 4, 104, 0, 0, []), (103, .iconst 0, 0, 0, 0, []), (104, .istore 4, 0, 0, 0, []), (106, .iload 4, 0, 0, 0, []), (108, .ifCond .eq 12, 120, 0, 0, []), (111, .aload_n 0, 0, 0, 0, []), (112, .getfield 48, 5, 11, 0, [1050]), (115, .ifCond .ne 5, 120, 0, 0, []), (118, .iload_n 2, 0, 0, 0, []), (119, .ireturn, 0, 0, 0, []), (120, .iinc 1 1, 0, 0, 0, []), (123, .goto (-121), 2, 0, 0, []), (126, .iconst 0, 0, 0, 0, []), (127, .ireturn, 0, 0, 0, [])]]
def gP108 : List (List gE) := [
  [(0, .aload_n 0, 0, 0, 0, []), (1, .iconst 0, 0, 0, 0, []), (2, .putfield 45, 5, 10, 0, [1049]), (5, .iload_n 1, 0, 0, 0, []), (6, .istore_n 3, 0, 0, 0, []), (7, .iload_n 3, 0, 0, 0, []), (8, .iload_n 2, 0, 0, 0, []), (9, .if_icmp .ge 21, 30, 0, 0, []), (12, .aload_n 0, 0, 0, 0, []), (13, .aload_n 0, 0, 0, 0, []), (14, .getfield 17, 5, 1, 0, [1040]), (17, .iload_n 3, 0, 0, 0, []), (18, .invokestatic 56, 199, 2, 1, [6120, 3072, 1001, 3073]), (21, .invokevirtual 64, 109, 1, 5, [6219, 6221, 129, 1002, 6222]), (24, .iinc 3 1, 0, 0, 0, []), (27, .goto (-20), 7, 0, 0, []), (30, .aload_n 0, 0, 0, 0, []), (31, .invokevirtual 68, 111, 0, 5, [6227, 6229, 131, 1002, 6230])],
  [(34, .ireturn, 0, 0, 0, [])]]
def gP109 : List (List gE) := [
  [(0, .iload_n 1, 0, 0, 0, []), (1, .sipush 10000, 0, 0, 0, []), (4, .isub, 0, 0, 0, []), (5, .istore_n 2, 0, 0, 0, []), (6, .iload_n 2, 0, 0, 0, []), (7, .ifCond .ge 11, 18, 0, 0, []), (10, .aload_n 0, 0, 0, 0, []), (11, .iload_n 1, 0, 0, 0, []), (12, .invokevirtual 72, 110, 1, 5, [6223, 6225, 130, 1002, 6226]), (15, .goto 75, 90, 0, 0, []), (18, .iload_n 2, 0, 0, 0, []), (19, .bipush 45, 0, 0, 0, []), (21, .if_icmp .lt 21, 42, 0, 0, []), (24, .aload_n 0, 0, 0, 0, []), (25, .aload_n 0, 0, 0, 0, []), (26, .getfield 39, 5, 8, 0, [1047]), (29, .iload_n 2, 0, 0, 0, []), (30, .bipush 45, 0, 0, 0, [])],
  [(32, .isub, 0, 0, 0, []), (33, .invokestatic 56, 199, 2, 1, [6120, 3072, 1001, 3073]), (36, .invokevirtual 72, 110, 1, 5, [6223, 6225, 130, 1002, 6226]), (39, .goto 51, 90, 0, 0, []), (42, .iload_n 2, 0, 0, 0, []), (43, .bipush 44, 0, 0, 0, []), (45, .if_icmp .ne 22, 67, 0, 0, []), (48, .aload_n 0, 0, 0, 0, []), (49, .aload_n 0, 0, 0, 0, []), (50, .invokevirtual 68, 111, 0, 5, [6227, 6229, 131, 1002, 6230]), (53, .ifCond .ne 7, 60, 0, 0, []), (56, .iconst 1, 0, 0, 0, []), (57, .goto 4, 61, 0, 0, []), (60, .iconst 0, 0, 0, 0, []), (61, .invokevirtual 72, 110, 1, 5, [6223, 6225, 130, 1002, 6226])],
  [(64, .goto 26, 90, 0, 0, []), (67, .aload_n 0, 0, 0, 0, []), (68, .invokevirtual 68, 111, 0, 5, [6227, 6229, 131, 1002, 6230]), (71, .istore_n 3, 0, 0, 0, []), (72, .aload_n 0, 0, 0, 0, []), (73, .invokevirtual 68, 111, 0, 5, [6227, 6229, 131, 1002, 6230]), (76, .istore 4, 0, 0, 0, []), (78, .aload_n 0, 0, 0, 0, []), (79, .aload_n 0, 0, 0, 0, []), (80, .iload_n 2, 0, 0, 0, []), (81, .iload 4, 0, 0, 0, []), (83, .iload_n 3, 0, 0, 0, []), (84, .invokevirtual 75, 112, 3, 5, [6232, 6234, 132, 1002, 6235]), (87, .invokevirtual 72, 110, 1, 5, [6223, 6225, 130, 1002, 6226]), (90, .return_, 0, 0, 0, [])]]
def gP110 : List (List gE) := [
  [(0, .aload_n 0, 0, 0, 0, []), (1, .getfield 42, 5, 9, 0, [1048]), (4, .aload_n 0, 0, 0, 0, []), (5, .getfield 45, 5, 10, 0, [1049]), (8, .iload_n 1, 0, 0, 0, []), (9, .invokestatic 52, 201, 3, 1, [3214, 1084, 1001, 1085]), (12, .aload_n 0, 0, 0, 0, []), (13, .dup, 0, 0, 0, []), (14, .getfield 45, 5, 10, 0, [1049]), (17, .iconst 1, 0, 0, 0, []), (18, .iadd, 0, 0, 0, []), (19, .putfield 45, 5, 10, 0, [1049]), (22, .return_, 0, 0, 0, [])]]
def gP111 : List (List gE) := [
  [(0, .aload_n 0, 0, 0, 0, []), (1, .iconst 0, 0, 0, 0, []), (2, .aload_n 0, 0, 0, 0, []), (3, .getfield 45, 5, 10, 0, [1049]), (6, .iconst 1, 0, 0, 0, []), (7, .isub, 0, 0, 0, []), (8, .invokestatic 79, 317, 2, 0, [6231, 3102, 1016, 3103]), (11, .putfield 45, 5, 10, 0, [1049]), (14, .aload_n 0, 0, 0, 0, []), (15, .getfield 42, 5, 9, 0, [1048]), (18, .aload_n 0, 0, 0, 0, []), (19, .getfield 45, 5, 10, 0, [1049]), (22, .invokestatic 56, 199, 2, 1, [6120, 3072, 1001, 3073]), (25, .ireturn, 0, 0, 0, [])]]
def gP112 : List (List gE) := [
  [(0, .iload_n 1, 0, 0, 0, []), (1, .lookupswitch 150 #[(6, 83), (7, 87), (8, 91), (9, 95), (12, 102), (13, 113), (14, 124), (15, 135), (43, 146)], 0, 0, 0, [])],
  [],
  [(84, .iload_n 2, 0, 0, 0, []), (85, .iload_n 3, 0, 0, 0, []), (86, .iadd, 0, 0, 0, []), (87, .ireturn, 0, 0, 0, []), (88, .iload_n 2, 0, 0, 0, []), (89, .iload_n 3, 0, 0, 0, []), (90, .isub, 0, 0, 0, []), (91, .ireturn, 0, 0, 0, []), (92, .iload_n 2, 0, 0, 0, []), (93, .iload_n 3, 0, 0, 0, []), (94, .imul, 0, 0, 0, []), (95, .ireturn, 0, 0, 0, [])],
  [(96, .aload_n 0, 0, 0, 0, []), (97, .iload_n 2, 0, 0, 0, []), (98, .iload_n 3, 0, 0, 0, []), (99, .invokevirtual 84, 113, 2, 5, [6236, 6238, 133, 1002, 6239]), (102, .ireturn, 0, 0, 0, []), (103, .iload_n 2, 0, 0, 0, []), (104, .iload_n 3, 0, 0, 0, []), (105, .if_icmp .ne 7, 112, 0, 0, []), (108, .iconst 1, 0, 0, 0, []), (109, .goto 4, 113, 0, 0, []), (112, .iconst 0, 0, 0, 0, []), (113, .ireturn, 0, 0, 0, []), (114, .iload_n 2, 0, 0, 0, []), (115, .iload_n 3, 0, 0, 0, []), (116, .if_icmp .eq 7, 123, 0, 0, []), (119, .iconst 1, 0, 0, 0, []), (120, .goto 4, 124, 0, 0, []), (123, .iconst 0, 0, 0, 0, []), (124, .ireturn, 0, 0, 0, []), (125, .iload_n 2, 0, 0, 0, []), (126, .iload_n 3, 0, 0, 0, []), (127, .if_icmp .ge 7, 134, 0, 0, [])],
  [(130, .iconst 1, 0, 0, 0, []), (131, .goto 4, 135, 0, 0, []), (134, .iconst 0, 0, 0, 0, []), (135, .ireturn, 0, 0, 0, []), (136, .iload_n 2, 0, 0, 0, []), (137, .iload_n 3, 0, 0, 0, []), (138, .if_icmp .gt 7, 145, 0, 0, []), (141, .iconst 1, 0, 0, 0, []), (142, .goto 4, 146, 0, 0, []), (145, .iconst 0, 0, 0, 0, []), (146, .ireturn, 0, 0, 0, []), (147, .iload_n 2, 0, 0, 0, []), (148, .iload_n 3, 0, 0, 0, []), (149, .iand, 0, 0, 0, []), (150, .ireturn, 0, 0, 0, []), (151, .iload_n 2, 0, 0, 0, []), (152, .iload_n 3, 0, 0, 0, []), (153, .ior, 0, 0, 0, []), (154, .ireturn, 0, 0, 0, [])]]
def gP113 : List (List gE) := [
  [(0, .iload_n 2, 0, 0, 0, []), (1, .ifCond .ne 10, 11, 0, 0, []), (4, .aload_n 0, 0, 0, 0, []), (5, .iconst 1, 0, 0, 0, []), (6, .putfield 48, 5, 11, 0, [1050]), (9, .iconst 0, 0, 0, 0, []), (10, .ireturn, 0, 0, 0, []), (11, .iload_n 1, 0, 0, 0, []), (12, .iload_n 2, 0, 0, 0, []), (13, .idiv, 0, 0, 0, []), (14, .ireturn, 0, 0, 0, [])]]
def gP114 : List (List gE) := [
  [(0, .aload_n 0, 0, 0, 0, []), (1, .invokespecial 3, 9999, 0, 0, [4050, 1027, 1028]), (4, .aload_n 0, 0, 0, 0, []), (5, .bipush 40, 0, 0, 0, []), (7, .anewarray 9, 6, 0, 0, [4051, 1232]), (10, .putfield 11, 6, 1, 0, [4056]), (13, .aload_n 0, 0, 0, 0, []), (14, .iconst 0, 0, 0, 0, []), (15, .putfield 17, 6, 2, 0, [4057]), (18, .aload_n 0, 0, 0, 0, []), (19, .iconst 0, 0, 0, 0, []), (20, .putfield 21, 6, 3, 0, [4061]), (23, .aload_n 0, 0, 0, 0, []), (24, .iconst 0, 0, 0, 0, []), (25, .putfield 24, 6, 4, 0, [4063]), (28, .aload_n 0, 0, 0, 0, []), (29, .iload_n 1, 0, 0, 0, []), (30, .putfield 27, 6, 0, 0, [4052])],
  [(33, .return_, 0, 0, 0, [])]]
def gP115 : List (List gE) := [
  [(0, .iload_n 1, 0, 0, 0, []), (1, .ifCond .lt 20, 21, 0, 0, []), (4, .iload_n 1, 0, 0, 0, []), (5, .aload_n 0, 0, 0, 0, []), (6, .getfield 17, 6, 2, 0, [4057]), (9, .if_icmp .ge 12, 21, 0, 0, []), (12, .iload_n 1, 0, 0, 0, []), (13, .aload_n 0, 0, 0, 0, []), (14, .getfield 11, 6, 1, 0, [4056]), (17, .arraylength, 0, 0, 0, []), (18, .if_icmp .lt 7, 25, 0, 0, []), (21, .aconst_null, 0, 0, 0, []), (22, .goto 9, 31, 0, 0, []), (25, .aload_n 0, 0, 0, 0, []), (26, .getfield 11, 6, 1, 0, [4056]), (29, .iload_n 1, 0, 0, 0, []), (30, .aaload, 0, 0, 0, []), (31, .areturn, 0, 0, 0, [])]]
def gP116 : List (List gE) := [
  [(0, .aload_n 0, 0, 0, 0, []), (1, .getfield 17, 6, 2, 0, [4057]), (4, .ifCond .lt 15, 19, 0, 0, []), (7, .aload_n 0, 0, 0, 0, []), (8, .getfield 17, 6, 2, 0, [4057]), (11, .aload_n 0, 0, 0, 0, []), (12, .getfield 11, 6, 1, 0, [4056]), (15, .arraylength, 0, 0, 0, []), (16, .if_icmp .lt 4, 20, 0, 0, []), (19, .return_, 0, 0, 0, []), (20, .new 9, 1, 0, 0, [4051, 1233, 1011]), (23, .dup, 0, 0, 0, []), (24, .invokespecial 30, 22, 0, 1, [4087, 1235, 1011, 1236]), (27, .astore 4, 0, 0, 0, []), (29, .aload 4, 0, 0, 0, []), (31, .aload_n 1, 0, 0, 0, [])],
  [(32, .invokevirtual 31, 25, 1, 1, [4088, 4090, 53, 1011, 4091]), (35, .aload 4, 0, 0, 0, []), (37, .iload_n 2, 0, 0, 0, []), (38, .iload_n 3, 0, 0, 0, []), (39, .invokevirtual 35, 26, 2, 1, [4095, 4097, 54, 1011, 4098]), (42, .aload 4, 0, 0, 0, []), (44, .getfield 39, 1, 0, 1, [1239]), (47, .ifCond .ne 19, 66, 0, 0, []), (50, .aload_n 0, 0, 0, 0, []), (51, .dup, 0, 0, 0, []), (52, .getfield 21, 6, 3, 0, [4061]), (55, .iconst 1, 0, 0, 0, []), (56, .aload 4, 0, 0, 0, []), (58, .getfield 42, 1, 2, 1, [2007]), (61, .ishl, 0, 0, 0, []), (62, .ior, 0, 0, 0, []), (63, .putfield 21, 6, 3, 0, [4061])],
  [(66, .aload 4, 0, 0, 0, []), (68, .invokevirtual 45, 23, 0, 1, [4099, 4101, 55, 1011, 4102]), (71, .ifCond .eq 28, 99, 0, 0, []), (74, .aload 4, 0, 0, 0, []), (76, .getfield 49, 1, 4, 1, [2018]), (79, .iconst (-1), 0, 0, 0, []), (80, .if_icmp .eq 19, 99, 0, 0, []), (83, .aload_n 0, 0, 0, 0, []), (84, .dup, 0, 0, 0, []), (85, .getfield 24, 6, 4, 0, [4063]), (88, .iconst 1, 0, 0, 0, []), (89, .aload 4, 0, 0, 0, []), (91, .getfield 49, 1, 4, 1, [2018]), (94, .ishl, 0, 0, 0, []), (95, .ior, 0, 0, 0, [])],
  [(96, .putfield 24, 6, 4, 0, [4063]), (99, .aload 4, 0, 0, 0, []), (101, .getfield 39, 1, 0, 1, [1239]), (104, .iconst 1, 0, 0, 0, []), (105, .if_icmp .ne 28, 133, 0, 0, []), (108, .aload 4, 0, 0, 0, []), (110, .getfield 52, 1, 6, 1, [2029]), (113, .iconst (-1), 0, 0, 0, []), (114, .if_icmp .eq 19, 133, 0, 0, []), (117, .aload_n 0, 0, 0, 0, []), (118, .dup, 0, 0, 0, []), (119, .getfield 24, 6, 4, 0, [4063]), (122, .iconst 1, 0, 0, 0, []), (123, .aload 4, 0, 0, 0, []), (125, .getfield 52, 1, 6, 1, [2029])],
  [(128, .ishl, 0, 0, 0, []), (129, .ior, 0, 0, 0, []), (130, .putfield 24, 6, 4, 0, [4063]), (133, .aload_n 0, 0, 0, 0, []), (134, .getfield 11, 6, 1, 0, [4056]), (137, .aload_n 0, 0, 0, 0, []), (138, .getfield 17, 6, 2, 0, [4057]), (141, .aload 4, 0, 0, 0, []), (143, .aastore, 0, 0, 0, []), (144, .aload_n 0, 0, 0, 0, []), (145, .dup, 0, 0, 0, []), (146, .getfield 17, 6, 2, 0, [4057]), (149, .iconst 1, 0, 0, 0, []), (150, .iadd, 0, 0, 0, []), (151, .putfield 17, 6, 2, 0, [4057]), (154, .return_, 0, 0, 0, [])]]
def gP117 : List (List gE) := [
  [(0, .aload_n 0, 0, 0, 0, []), (1, .invokespecial 3, 9999, 0, 0, [4174, 1027, 1028]), (4, .aload_n 0, 0, 0, 0, []), (5, .sipush 240, 0, 0, 0, []), (8, .newarray .int, 0, 0, 0, [1076]), (10, .putfield 9, 7, 4, 0, [4192]), (13, .aload_n 0, 0, 0, 0, []), (14, .bipush 8, 0, 0, 0, []), (16, .newarray .int, 0, 0, 0, [1076]), (18, .putfield 15, 7, 5, 0, [4195]), (21, .aload_n 0, 0, 0, 0, []), (22, .iconst 0, 0, 0, 0, []), (23, .putfield 18, 7, 7, 0, [4201]), (26, .aload_n 0, 0, 0, 0, []), (27, .iconst 0, 0, 0, 0, []), (28, .putfield 22, 7, 8, 0, [4204]), (31, .aload_n 0, 0, 0, 0, [])],
  [(32, .iconst 0, 0, 0, 0, []), (33, .putfield 25, 7, 9, 0, [4207]), (36, .aload_n 0, 0, 0, 0, []), (37, .aconst_null, 0, 0, 0, []), (38, .putfield 28, 7, 10, 0, [4210]), (41, .aload_n 0, 0, 0, 0, []), (42, .iconst (-1), 0, 0, 0, []), (43, .putfield 32, 7, 11, 0, [4213]), (46, .aload_n 0, 0, 0, 0, []), (47, .iconst (-1), 0, 0, 0, []), (48, .putfield 35, 7, 12, 0, [4215]), (51, .aload_n 0, 0, 0, 0, []), (52, .iload_n 1, 0, 0, 0, []), (53, .putfield 38, 7, 0, 0, [4175]), (56, .aload_n 0, 0, 0, 0, []), (57, .iload_n 2, 0, 0, 0, []), (58, .putfield 41, 7, 1, 0, [4180]), (61, .aload_n 0, 0, 0, 0, []), (62, .iload_n 3, 0, 0, 0, []), (63, .putfield 44, 7, 2, 0, [4184])],
  [(66, .aload_n 0, 0, 0, 0, []), (67, .iload 4, 0, 0, 0, []), (69, .putfield 47, 7, 3, 0, [4188]), (72, .aload_n 0, 0, 0, 0, []), (73, .iload 5, 0, 0, 0, []), (75, .putfield 50, 7, 6, 0, [4198]), (78, .return_, 0, 0, 0, [])]]
def gP118 : List (List gE) := [
  [(0, .aload_n 0, 0, 0, 0, []), (1, .getfield 38, 7, 0, 0, [4175]), (4, .iconst 3, 0, 0, 0, []), (5, .if_icmp .le 5, 10, 0, 0, []), (8, .iconst 0, 0, 0, 0, []), (9, .ireturn, 0, 0, 0, []), (10, .iload_n 1, 0, 0, 0, []), (11, .iload_n 2, 0, 0, 0, []), (12, .if_icmp .lt 5, 17, 0, 0, []), (15, .iconst 1, 0, 0, 0, []), (16, .ireturn, 0, 0, 0, []), (17, .iload_n 1, 0, 0, 0, []), (18, .ifCond .lt 11, 29, 0, 0, []), (21, .iload_n 2, 0, 0, 0, []), (22, .aload_n 0, 0, 0, 0, []), (23, .getfield 50, 7, 6, 0, [4198]), (26, .if_icmp .le 5, 31, 0, 0, []), (29, .iconst 0, 0, 0, 0, []), (30, .ireturn, 0, 0, 0, []), (31, .iload_n 3, 0, 0, 0, [])],
  [(32, .i2l, 0, 0, 0, []), (33, .invokestatic 53, 198, 1, 1, [5037, 5038, 1001, 5039]), (36, .ifCond .eq 26, 62, 0, 0, []), (39, .iload_n 3, 0, 0, 0, []), (40, .i2l, 0, 0, 0, []), (41, .iload 4, 0, 0, 0, []), (43, .i2l, 0, 0, 0, []), (44, .iload_n 2, 0, 0, 0, []), (45, .iconst 1, 0, 0, 0, []), (46, .isub, 0, 0, 0, []), (47, .iload_n 1, 0, 0, 0, []), (48, .isub, 0, 0, 0, []), (49, .i2l, 0, 0, 0, []), (50, .lmul, 0, 0, 0, []), (51, .ladd, 0, 0, 0, []), (52, .invokestatic 53, 198, 1, 1, [5037, 5038, 1001, 5039]), (55, .ifCond .eq 7, 62, 0, 0, []), (58, .iconst 1, 0, 0, 0, []), (59, .goto 4, 63, 0, 0, []), (62, .iconst 0, 0, 0, 0, []), (63, .ireturn, 0, 0, 0, [])]]
def gP119 : List (List gE) := [
  [(0, .aload_n 0, 0, 0, 0, []), (1, .invokespecial 1, 9999, 0, 0, [1148, 1027, 1028]), (4, .aload_n 0, 0, 0, 0, []), (5, .bipush 34, 0, 0, 0, []), (7, .newarray .long, 1, 0, 0, [1227]), (9, .putfield 9, 8, 0, 0, [1211]), (12, .aload_n 0, 0, 0, 0, []), (13, .sipush 502, 0, 0, 0, []), (16, .newarray .int, 0, 0, 0, [1076]), (18, .putfield 13, 8, 1, 0, [1212]), (21, .aload_n 0, 0, 0, 0, []), (22, .sipush 502, 0, 0, 0, []), (25, .newarray .int, 0, 0, 0, [1076]), (27, .putfield 17, 8, 2, 0, [1213]), (30, .aload_n 0, 0, 0, 0, []), (31, .sipush 502, 0, 0, 0, [])],
  [(34, .newarray .long, 1, 0, 0, [1227]), (36, .putfield 20, 8, 3, 0, [1214]), (39, .aload_n 0, 0, 0, 0, []), (40, .iconst 0, 0, 0, 0, []), (41, .putfield 23, 8, 4, 0, [1215]), (44, .aload_n 0, 0, 0, 0, []), (45, .bipush 16, 0, 0, 0, []), (47, .ldc 27, 0, 1, 0, [1149]), (49, .invokevirtual 29, 120, 2, 8, [1150, 1152, 0, 1006, 1153]), (52, .aload_n 0, 0, 0, 0, []), (53, .bipush 31, 0, 0, 0, []), (55, .ldc 33, 1, 1, 0, [1209]), (57, .invokevirtual 29, 120, 2, 8, [1150, 1152, 0, 1006, 1153]), (60, .aload_n 0, 0, 0, 0, []), (61, .bipush 45, 0, 0, 0, []), (63, .ldc 35, 2, 1, 0, [1210])],
  [(65, .invokevirtual 29, 120, 2, 8, [1150, 1152, 0, 1006, 1153]), (68, .return_, 0, 0, 0, [])]]
def gP120 : List (List gE) := [
  [(0, .iload_n 1, 0, 0, 0, []), (1, .bipush 16, 0, 0, 0, []), (3, .isub, 0, 0, 0, []), (4, .istore_n 3, 0, 0, 0, []), (5, .lconst 0, 0, 0, 0, []), (6, .lstore 4, 0, 0, 0, []), (8, .iconst 0, 0, 0, 0, []), (9, .istore 6, 0, 0, 0, []), (11, .iload 6, 0, 0, 0, []), (13, .aload_n 2, 0, 0, 0, []), (14, .invokevirtual 37, 321, 0, 13, [1154, 1155, 1156, 1007, 1157]), (17, .if_icmp .ge 52, 69, 0, 0, []), (20, .aload_n 2, 0, 0, 0, []), (21, .iload 6, 0, 0, 0, []), (23, .invokevirtual 43, 322, 1, 13, [1164, 1165, 1166, 1007, 1167]), (26, .istore 7, 0, 0, 0, []), (28, .iload 7, 0, 0, 0, []), (30, .bipush 32, 0, 0, 0, [])],
  [(32, .if_icmp .ne 22, 54, 0, 0, []), (35, .aload_n 0, 0, 0, 0, []), (36, .getfield 9, 8, 0, 0, [1211]), (39, .iload_n 3, 0, 0, 0, []), (40, .lload 4, 0, 0, 0, []), (42, .invokestatic 47, 202, 3, 1, [1202, 1203, 1001, 1204]), (45, .iinc 3 1, 0, 0, 0, []), (48, .lconst 0, 0, 0, 0, []), (49, .lstore 4, 0, 0, 0, []), (51, .goto 12, 63, 0, 0, []), (54, .lload 4, 0, 0, 0, []), (56, .iload 7, 0, 0, 0, []), (58, .invokestatic 53, 121, 2, 0, [1205, 1206, 1006, 1207]), (61, .lstore 4, 0, 0, 0, []), (63, .iinc 6 1, 0, 0, 0, [])],
  [(66, .goto (-55), 11, 0, 0, []), (69, .return_, 0, 0, 0, [])]]
def gP121 : List (List gE) := [
  [(0, .lload_n 0, 0, 0, 0, []), (1, .ldc2_w 57, 0, 0, 32, [1208]), (4, .lmul, 0, 0, 0, []), (5, .iload_n 2, 0, 0, 0, []), (6, .bipush 97, 0, 0, 0, []), (8, .isub, 0, 0, 0, []), (9, .iconst 1, 0, 0, 0, []), (10, .iadd, 0, 0, 0, []), (11, .i2l, 0, 0, 0, []), (12, .ladd, 0, 0, 0, []), (13, .lreturn, 0, 0, 0, [])]]
def gP122 : List (List gE) := [
  [(0, .iload_n 1, 0, 0, 0, []), (1, .ifCond .lt 20, 21, 0, 0, []), (4, .iload_n 1, 0, 0, 0, []), (5, .aload_n 0, 0, 0, 0, []), (6, .getfield 23, 8, 4, 0, [1215]), (9, .if_icmp .ge 12, 21, 0, 0, []), (12, .iload_n 1, 0, 0, 0, []), (13, .aload_n 0, 0, 0, 0, []), (14, .getfield 13, 8, 1, 0, [1212]), (17, .arraylength, 0, 0, 0, []), (18, .if_icmp .lt 7, 25, 0, 0, []), (21, .iconst 0, 0, 0, 0, []), (22, .goto 9, 31, 0, 0, []), (25, .aload_n 0, 0, 0, 0, []), (26, .getfield 13, 8, 1, 0, [1212]), (29, .iload_n 1, 0, 0, 0, []), (30, .iaload, 0, 0, 0, []), (31, .ireturn, 0, 0, 0, [])]]
def gP123 : List (List gE) := [
  [(0, .iload_n 1, 0, 0, 0, []), (1, .ifCond .lt 20, 21, 0, 0, []), (4, .iload_n 1, 0, 0, 0, []), (5, .aload_n 0, 0, 0, 0, []), (6, .getfield 23, 8, 4, 0, [1215]), (9, .if_icmp .ge 12, 21, 0, 0, []), (12, .iload_n 1, 0, 0, 0, []), (13, .aload_n 0, 0, 0, 0, []), (14, .getfield 20, 8, 3, 0, [1214]), (17, .arraylength, 0, 0, 0, []), (18, .if_icmp .lt 7, 25, 0, 0, []), (21, .lconst 0, 0, 0, 0, []), (22, .goto 9, 31, 0, 0, []), (25, .aload_n 0, 0, 0, 0, []), (26, .getfield 20, 8, 3, 0, [1214]), (29, .iload_n 1, 0, 0, 0, []), (30, .laload, 0, 0, 0, []), (31, .lreturn, 0, 0, 0, [])]]
def gP124 : List (List gE) := [
  [(0, .aload_n 0, 0, 0, 0, []), (1, .getfield 17, 8, 2, 0, [1213]), (4, .iload_n 1, 0, 0, 0, []), (5, .invokestatic 59, 199, 2, 1, [3071, 3072, 1001, 3073]), (8, .ireturn, 0, 0, 0, [])]]
def gP125 : List (List gE) := [
  [(0, .aload_n 0, 0, 0, 0, []), (1, .iconst 0, 0, 0, 0, []), (2, .putfield 23, 8, 4, 0, [1215]), (5, .iconst 0, 0, 0, 0, []), (6, .istore_n 3, 0, 0, 0, []), (7, .iload_n 3, 0, 0, 0, []), (8, .iload_n 2, 0, 0, 0, []), (9, .if_icmp .ge 30, 39, 0, 0, []), (12, .aload_n 0, 0, 0, 0, []), (13, .getfield 23, 8, 4, 0, [1215]), (16, .sipush 500, 0, 0, 0, []), (19, .if_icmp .gt 20, 39, 0, 0, []), (22, .iload_n 3, 0, 0, 0, []), (23, .iconst 1, 0, 0, 0, []), (24, .iadd, 0, 0, 0, []), (25, .aload_n 0, 0, 0, 0, []), (26, .aload_n 1, 0, 0, 0, []), (27, .iload_n 3, 0, 0, 0, []), (28, .iload_n 2, 0, 0, 0, []), (29, .invokevirtual 63, 127, 3, 8, [3067, 3069, 4, 1006, 3070])],
  [(32, .invokestatic 67, 317, 2, 0, [3101, 3102, 1016, 3103]), (35, .istore_n 3, 0, 0, 0, []), (36, .goto (-29), 7, 0, 0, []), (39, .aload_n 0, 0, 0, 0, []), (40, .iconst 0, 0, 0, 0, []), (41, .iload_n 2, 0, 0, 0, []), (42, .lconst 0, 0, 0, 0, []), (43, .invokevirtual 73, 126, 3, 8, [3085, 3087, 7, 1006, 3088]), (46, .return_, 0, 0, 0, [])]]
def gP126 : List (List gE) := [
  [(0, .aload_n 0, 0, 0, 0, []), (1, .getfield 13, 8, 1, 0, [1212]), (4, .aload_n 0, 0, 0, 0, []), (5, .getfield 23, 8, 4, 0, [1215]), (8, .iload_n 1, 0, 0, 0, []), (9, .invokestatic 77, 201, 3, 1, [3089, 1084, 1001, 1085]), (12, .aload_n 0, 0, 0, 0, []), (13, .getfield 17, 8, 2, 0, [1213]), (16, .aload_n 0, 0, 0, 0, []), (17, .getfield 23, 8, 4, 0, [1215]), (20, .iload_n 2, 0, 0, 0, []), (21, .invokestatic 77, 201, 3, 1, [3089, 1084, 1001, 1085]), (24, .aload_n 0, 0, 0, 0, []), (25, .getfield 20, 8, 3, 0, [1214]), (28, .aload_n 0, 0, 0, 0, []), (29, .getfield 23, 8, 4, 0, [1215])],
  [(32, .lload_n 3, 0, 0, 0, []), (33, .invokestatic 47, 202, 3, 1, [1202, 1203, 1001, 1204]), (36, .aload_n 0, 0, 0, 0, []), (37, .dup, 0, 0, 0, []), (38, .getfield 23, 8, 4, 0, [1215]), (41, .iconst 1, 0, 0, 0, []), (42, .iadd, 0, 0, 0, []), (43, .putfield 23, 8, 4, 0, [1215]), (46, .return_, 0, 0, 0, [])]]
def gP127 : List (List gE) := [
  [(0, .aload_n 1, 0, 0, 0, []), (1, .iload_n 2, 0, 0, 0, []), (2, .invokestatic 59, 199, 2, 1, [3071, 3072, 1001, 3073]), (5, .istore 4, 0, 0, 0, []), (7, .iload 4, 0, 0, 0, []), (9, .bipush 9, 0, 0, 0, []), (11, .if_icmp .eq 24, 35, 0, 0, []), (14, .iload 4, 0, 0, 0, []), (16, .bipush 10, 0, 0, 0, []), (18, .if_icmp .eq 17, 35, 0, 0, []), (21, .iload 4, 0, 0, 0, []), (23, .bipush 13, 0, 0, 0, []), (25, .if_icmp .eq 10, 35, 0, 0, []), (28, .iload 4, 0, 0, 0, []), (30, .bipush 32, 0, 0, 0, [])],
  [(32, .if_icmp .ne 7, 39, 0, 0, []), (35, .iload_n 2, 0, 0, 0, []), (36, .iconst 1, 0, 0, 0, []), (37, .iadd, 0, 0, 0, []), (38, .ireturn, 0, 0, 0, []), (39, .iload 4, 0, 0, 0, []), (41, .bipush 97, 0, 0, 0, []), (43, .if_icmp .lt 18, 61, 0, 0, []), (46, .iload 4, 0, 0, 0, []), (48, .bipush 122, 0, 0, 0, []), (50, .if_icmp .gt 11, 61, 0, 0, []), (53, .aload_n 0, 0, 0, 0, []), (54, .aload_n 1, 0, 0, 0, []), (55, .iload_n 2, 0, 0, 0, []), (56, .iload_n 3, 0, 0, 0, []), (57, .invokevirtual 80, 128, 3, 8, [3074, 3076, 5, 1006, 3077]), (60, .ireturn, 0, 0, 0, []), (61, .iload 4, 0, 0, 0, []), (63, .bipush 48, 0, 0, 0, [])],
  [(65, .if_icmp .lt 18, 83, 0, 0, []), (68, .iload 4, 0, 0, 0, []), (70, .bipush 57, 0, 0, 0, []), (72, .if_icmp .gt 11, 83, 0, 0, []), (75, .aload_n 0, 0, 0, 0, []), (76, .aload_n 1, 0, 0, 0, []), (77, .iload_n 2, 0, 0, 0, []), (78, .iload_n 3, 0, 0, 0, []), (79, .invokevirtual 83, 130, 3, 8, [3090, 3092, 8, 1006, 3093]), (82, .ireturn, 0, 0, 0, []), (83, .iload_n 2, 0, 0, 0, []), (84, .iconst 1, 0, 0, 0, []), (85, .iadd, 0, 0, 0, []), (86, .iload_n 3, 0, 0, 0, []), (87, .if_icmp .ge 19, 106, 0, 0, []), (90, .aload_n 1, 0, 0, 0, []), (91, .iload_n 2, 0, 0, 0, []), (92, .iconst 1, 0, 0, 0, []), (93, .iadd, 0, 0, 0, []), (94, .invokestatic 59, 199, 2, 1, [3071, 3072, 1001, 3073])],
  [(97, .bipush 61, 0, 0, 0, []), (99, .if_icmp .ne 7, 106, 0, 0, []), (102, .iconst 1, 0, 0, 0, []), (103, .goto 4, 107, 0, 0, []), (106, .iconst 0, 0, 0, 0, []), (107, .istore 5, 0, 0, 0, []), (109, .iload 5, 0, 0, 0, []), (111, .ifCond .eq 11, 122, 0, 0, []), (114, .iload 4, 0, 0, 0, []), (116, .invokestatic 86, 131, 1, 0, [3095, 3096, 1006, 3097]), (119, .goto 4, 123, 0, 0, []), (122, .iconst 1, 0, 0, 0, []), (123, .istore 6, 0, 0, 0, []), (125, .iload 6, 0, 0, 0, []), (127, .iconst 1, 0, 0, 0, [])],
  [(128, .if_icmp .eq 15, 143, 0, 0, []), (131, .aload_n 0, 0, 0, 0, []), (132, .iload 6, 0, 0, 0, []), (134, .iload_n 2, 0, 0, 0, []), (135, .lconst 0, 0, 0, 0, []), (136, .invokevirtual 73, 126, 3, 8, [3085, 3087, 7, 1006, 3088]), (139, .iload_n 2, 0, 0, 0, []), (140, .iconst 2, 0, 0, 0, []), (141, .iadd, 0, 0, 0, []), (142, .ireturn, 0, 0, 0, []), (143, .aload_n 0, 0, 0, 0, []), (144, .iload 4, 0, 0, 0, []), (146, .invokestatic 90, 132, 1, 0, [3098, 3099, 1006, 3100]), (149, .iload_n 2, 0, 0, 0, []), (150, .lconst 0, 0, 0, 0, []), (151, .invokevirtual 73, 126, 3, 8, [3085, 3087, 7, 1006, 3088]), (154, .iload_n 2, 0, 0, 0, []), (155, .iconst 1, 0, 0, 0, []), (156, .iadd, 0, 0, 0, []), (157, .ireturn, 0, 0, 0, [])]]
def gP128 : List (List gE) := [
  [(0, .iload_n 2, 0, 0, 0, []), (1, .istore 4, 0, 0, 0, []), (3, .lconst 0, 0, 0, 0, []), (4, .lstore 5, 0, 0, 0, []), (6, .iload 4, 0, 0, 0, []), (8, .iload_n 3, 0, 0, 0, []), (9, .if_icmp .ge 44, 53, 0, 0, []), (12, .aload_n 1, 0, 0, 0, []), (13, .iload 4, 0, 0, 0, []), (15, .invokestatic 59, 199, 2, 1, [3071, 3072, 1001, 3073]), (18, .bipush 97, 0, 0, 0, []), (20, .if_icmp .lt 33, 53, 0, 0, []), (23, .aload_n 1, 0, 0, 0, []), (24, .iload 4, 0, 0, 0, []), (26, .invokestatic 59, 199, 2, 1, [3071, 3072, 1001, 3073]), (29, .bipush 122, 0, 0, 0, []), (31, .if_icmp .gt 22, 53, 0, 0, [])],
  [(34, .lload 5, 0, 0, 0, []), (36, .aload_n 1, 0, 0, 0, []), (37, .iload 4, 0, 0, 0, []), (39, .invokestatic 59, 199, 2, 1, [3071, 3072, 1001, 3073]), (42, .invokestatic 53, 121, 2, 0, [1205, 1206, 1006, 1207]), (45, .lstore 5, 0, 0, 0, []), (47, .iinc 4 1, 0, 0, 0, []), (50, .goto (-44), 6, 0, 0, []), (53, .aload_n 0, 0, 0, 0, []), (54, .iload 4, 0, 0, 0, []), (56, .iload_n 2, 0, 0, 0, []), (57, .isub, 0, 0, 0, []), (58, .bipush 8, 0, 0, 0, []), (60, .if_icmp .le 7, 67, 0, 0, []), (63, .iconst 1, 0, 0, 0, [])],
  [(64, .goto 9, 73, 0, 0, []), (67, .aload_n 0, 0, 0, 0, []), (68, .lload 5, 0, 0, 0, []), (70, .invokevirtual 93, 129, 1, 8, [3078, 3080, 6, 1006, 3081]), (73, .iload_n 2, 0, 0, 0, []), (74, .lload 5, 0, 0, 0, []), (76, .invokevirtual 73, 126, 3, 8, [3085, 3087, 7, 1006, 3088]), (79, .iload 4, 0, 0, 0, []), (81, .ireturn, 0, 0, 0, [])]]
def gP129 : List (List gE) := [
  [(0, .iconst 0, 0, 0, 0, []), (1, .istore_n 3, 0, 0, 0, []), (2, .iload_n 3, 0, 0, 0, []), (3, .bipush 34, 0, 0, 0, []), (5, .if_icmp .ge 27, 32, 0, 0, []), (8, .aload_n 0, 0, 0, 0, []), (9, .getfield 9, 8, 0, 0, [1211]), (12, .iload_n 3, 0, 0, 0, []), (13, .invokestatic 97, 200, 2, 1, [3082, 3083, 1001, 3084]), (16, .lload_n 1, 0, 0, 0, []), (17, .lcmp, 0, 0, 0, []), (18, .ifCond .ne 8, 26, 0, 0, []), (21, .bipush 16, 0, 0, 0, []), (23, .iload_n 3, 0, 0, 0, []), (24, .iadd, 0, 0, 0, []), (25, .ireturn, 0, 0, 0, []), (26, .iinc 3 1, 0, 0, 0, []), (29, .goto (-27), 2, 0, 0, [])],
  [(32, .iconst 2, 0, 0, 0, []), (33, .ireturn, 0, 0, 0, [])]]
def gP130 : List (List gE) := [
  [(0, .iload_n 2, 0, 0, 0, []), (1, .istore 4, 0, 0, 0, []), (3, .lconst 0, 0, 0, 0, []), (4, .lstore 5, 0, 0, 0, []), (6, .iload 4, 0, 0, 0, []), (8, .iload_n 3, 0, 0, 0, []), (9, .if_icmp .ge 50, 59, 0, 0, []), (12, .aload_n 1, 0, 0, 0, []), (13, .iload 4, 0, 0, 0, []), (15, .invokestatic 59, 199, 2, 1, [3071, 3072, 1001, 3073]), (18, .bipush 48, 0, 0, 0, []), (20, .if_icmp .lt 39, 59, 0, 0, []), (23, .aload_n 1, 0, 0, 0, []), (24, .iload 4, 0, 0, 0, []), (26, .invokestatic 59, 199, 2, 1, [3071, 3072, 1001, 3073]), (29, .bipush 57, 0, 0, 0, []), (31, .if_icmp .gt 28, 59, 0, 0, [])],
  [(34, .lload 5, 0, 0, 0, []), (36, .ldc2_w 100, 0, 0, 10, [3094]), (39, .lmul, 0, 0, 0, []), (40, .aload_n 1, 0, 0, 0, []), (41, .iload 4, 0, 0, 0, []), (43, .invokestatic 59, 199, 2, 1, [3071, 3072, 1001, 3073]), (46, .bipush 48, 0, 0, 0, []), (48, .isub, 0, 0, 0, []), (49, .i2l, 0, 0, 0, []), (50, .ladd, 0, 0, 0, []), (51, .lstore 5, 0, 0, 0, []), (53, .iinc 4 1, 0, 0, 0, []), (56, .goto (-50), 6, 0, 0, []), (59, .aload_n 0, 0, 0, 0, []), (60, .iload 4, 0, 0, 0, []), (62, .iload_n 2, 0, 0, 0, []), (63, .isub, 0, 0, 0, [])],
  [(64, .iconst 4, 0, 0, 0, []), (65, .if_icmp .le 7, 72, 0, 0, []), (68, .iconst 1, 0, 0, 0, []), (69, .goto 4, 73, 0, 0, []), (72, .iconst 3, 0, 0, 0, []), (73, .iload_n 2, 0, 0, 0, []), (74, .lload 5, 0, 0, 0, []), (76, .invokevirtual 73, 126, 3, 8, [3085, 3087, 7, 1006, 3088]), (79, .iload 4, 0, 0, 0, []), (81, .ireturn, 0, 0, 0, [])]]
def gP131 : List (List gE) := [
  [(0, .iload_n 0, 0, 0, 0, []), (1, .lookupswitch 44 #[(33, 38), (60, 41), (61, 35)], 0, 0, 0, [])],
  [(36, .bipush 12, 0, 0, 0, []), (38, .ireturn, 0, 0, 0, []), (39, .bipush 13, 0, 0, 0, []), (41, .ireturn, 0, 0, 0, []), (42, .bipush 15, 0, 0, 0, []), (44, .ireturn, 0, 0, 0, []), (45, .iconst 1, 0, 0, 0, []), (46, .ireturn, 0, 0, 0, [])]]
def gP132 : List (List gE) := [
  [(0, .iload_n 0, 0, 0, 0, []), (1, .tableswitch 124 40 60 #[115, 118, 109, 103, 101, 106, 124, 112, 124, 124, 124, 124, 124, 124, 124, 124, 124, 124, 124, 99, 121], 0, 0, 0, [])],
  [],
  [],
  [(100, .iconst 4, 0, 0, 0, []), (101, .ireturn, 0, 0, 0, []), (102, .iconst 5, 0, 0, 0, []), (103, .ireturn, 0, 0, 0, []), (104, .bipush 6, 0, 0, 0, []), (106, .ireturn, 0, 0, 0, []), (107, .bipush 7, 0, 0, 0, []), (109, .ireturn, 0, 0, 0, []), (110, .bipush 8, 0, 0, 0, []), (112, .ireturn, 0, 0, 0, []), (113, .bipush 9, 0, 0, 0, []), (115, .ireturn, 0, 0, 0, []), (116, .bipush 10, 0, 0, 0, []), (118, .ireturn, 0, 0, 0, []), (119, .bipush 11, 0, 0, 0, []), (121, .ireturn, 0, 0, 0, []), (122, .bipush 14, 0, 0, 0, []), (124, .ireturn, 0, 0, 0, []), (125, .iconst 1, 0, 0, 0, []), (126, .ireturn, 0, 0, 0, [])]]
def gP133 : List (List gE) := [
  [(0, .aload_n 0, 0, 0, 0, []), (1, .invokespecial 3, 9999, 0, 0, [2217, 1027, 1028]), (4, .aload_n 0, 0, 0, 0, []), (5, .bipush 60, 0, 0, 0, []), (7, .newarray .int, 0, 0, 0, [1076]), (9, .putfield 9, 9, 3, 0, [2221]), (12, .aload_n 0, 0, 0, 0, []), (13, .bipush 60, 0, 0, 0, []), (15, .newarray .int, 0, 0, 0, [1076]), (17, .putfield 15, 9, 4, 0, [2222]), (20, .aload_n 0, 0, 0, 0, []), (21, .iconst 0, 0, 0, 0, []), (22, .putfield 18, 9, 5, 0, [2223]), (25, .aload_n 0, 0, 0, 0, []), (26, .bipush 10, 0, 0, 0, []), (28, .putfield 22, 9, 6, 0, [2224]), (31, .aload_n 0, 0, 0, 0, [])],
  [(32, .iconst 0, 0, 0, 0, []), (33, .putfield 25, 9, 7, 0, [2225]), (36, .aload_n 0, 0, 0, 0, []), (37, .aload_n 1, 0, 0, 0, []), (38, .putfield 28, 9, 0, 0, [2218]), (41, .aload_n 0, 0, 0, 0, []), (42, .aload_n 2, 0, 0, 0, []), (43, .putfield 32, 9, 1, 0, [2219]), (46, .aload_n 0, 0, 0, 0, []), (47, .aload_n 3, 0, 0, 0, []), (48, .putfield 36, 9, 2, 0, [2220]), (51, .return_, 0, 0, 0, [])]]
def gP134 : List (List gE) := [
  [(0, .iconst 4, 0, 0, 0, []), (1, .aload_n 0, 0, 0, 0, []), (2, .getfield 32, 9, 1, 0, [2219]), (5, .iload_n 1, 0, 0, 0, []), (6, .invokevirtual 40, 53, 1, 3, [6052, 4130, 59, 1003, 4131]), (9, .imul, 0, 0, 0, []), (10, .istore_n 3, 0, 0, 0, []), (11, .aload_n 0, 0, 0, 0, []), (12, .getfield 9, 9, 3, 0, [2221]), (15, .iconst 0, 0, 0, 0, []), (16, .invokestatic 46, 203, 2, 1, [6053, 5090, 1001, 5091]), (19, .aload_n 0, 0, 0, 0, []), (20, .getfield 36, 9, 2, 0, [2220]), (23, .aload_n 2, 0, 0, 0, []), (24, .iconst 0, 0, 0, 0, []), (25, .iload_n 3, 0, 0, 0, []), (26, .invokevirtual 50, 37, 3, 2, [6054, 5128, 80, 1012, 5129]), (29, .iconst 0, 0, 0, 0, []), (30, .istore 4, 0, 0, 0, [])],
  [(32, .iload 4, 0, 0, 0, []), (34, .iload_n 3, 0, 0, 0, []), (35, .if_icmp .ge 34, 69, 0, 0, []), (38, .aload_n 0, 0, 0, 0, []), (39, .getfield 36, 9, 2, 0, [2220]), (42, .iconst 0, 0, 0, 0, []), (43, .iload 4, 0, 0, 0, []), (45, .invokevirtual 56, 40, 2, 2, [6055, 6057, 104, 1012, 6058]), (48, .ifCond .eq 15, 63, 0, 0, []), (51, .aload_n 0, 0, 0, 0, []), (52, .getfield 9, 9, 3, 0, [2221]), (55, .iload 4, 0, 0, 0, []), (57, .iconst 4, 0, 0, 0, []), (58, .idiv, 0, 0, 0, []), (59, .iconst 1, 0, 0, 0, []), (60, .invokestatic 60, 201, 3, 1, [6059, 1084, 1001, 1085]), (63, .iinc 4 1, 0, 0, 0, [])],
  [(66, .goto (-34), 32, 0, 0, []), (69, .return_, 0, 0, 0, [])]]
def gP135 : List (List gE) := [
  [(0, .aload_n 0, 0, 0, 0, []), (1, .getfield 32, 9, 1, 0, [2219]), (4, .iload_n 2, 0, 0, 0, []), (5, .iload_n 3, 0, 0, 0, []), (6, .iload_n 1, 0, 0, 0, []), (7, .invokevirtual 64, 58, 3, 3, [6064, 4160, 62, 1003, 4161]), (10, .istore 4, 0, 0, 0, []), (12, .iload 4, 0, 0, 0, []), (14, .iconst (-1), 0, 0, 0, []), (15, .if_icmp .eq 19, 34, 0, 0, []), (18, .aload_n 0, 0, 0, 0, []), (19, .getfield 9, 9, 3, 0, [2221]), (22, .iload 4, 0, 0, 0, []), (24, .invokestatic 68, 199, 2, 1, [6065, 3072, 1001, 3073]), (27, .ifCond .eq 7, 34, 0, 0, []), (30, .iconst 1, 0, 0, 0, []), (31, .goto 4, 35, 0, 0, [])],
  [(34, .iconst 0, 0, 0, 0, []), (35, .ireturn, 0, 0, 0, [])]]
def gP136 : List (List gE) := [
  [(0, .aload_n 0, 0, 0, 0, []), (1, .iload_n 1, 0, 0, 0, []), (2, .aload_n 2, 0, 0, 0, []), (3, .invokevirtual 72, 134, 2, 9, [6048, 6050, 103, 1014, 6051]), (6, .aload_n 0, 0, 0, 0, []), (7, .getfield 32, 9, 1, 0, [2219]), (10, .iload_n 3, 0, 0, 0, []), (11, .invokevirtual 40, 53, 1, 3, [6052, 4130, 59, 1003, 4131]), (14, .istore 4, 0, 0, 0, []), (16, .iconst 0, 0, 0, 0, []), (17, .istore 5, 0, 0, 0, []), (19, .iload 5, 0, 0, 0, []), (21, .iload 4, 0, 0, 0, []), (23, .if_icmp .ge 23, 46, 0, 0, []), (26, .aload_n 0, 0, 0, 0, []), (27, .iload_n 1, 0, 0, 0, []), (28, .iload_n 3, 0, 0, 0, []), (29, .iload 5, 0, 0, 0, []), (31, .invokevirtual 76, 135, 3, 9, [6060, 6062, 105, 1014, 6063])],
  [(34, .ifCond .eq 6, 40, 0, 0, []), (37, .iload 5, 0, 0, 0, []), (39, .ireturn, 0, 0, 0, []), (40, .iinc 5 1, 0, 0, 0, []), (43, .goto (-24), 19, 0, 0, []), (46, .iconst (-1), 0, 0, 0, []), (47, .ireturn, 0, 0, 0, [])]]
def gP137 : List (List gE) := [
  [(0, .aload_n 0, 0, 0, 0, []), (1, .iload_n 1, 0, 0, 0, []), (2, .aload_n 2, 0, 0, 0, []), (3, .invokevirtual 72, 134, 2, 9, [6048, 6050, 103, 1014, 6051]), (6, .aload_n 0, 0, 0, 0, []), (7, .getfield 15, 9, 4, 0, [2222]), (10, .iconst 0, 0, 0, 0, []), (11, .invokestatic 46, 203, 2, 1, [6053, 5090, 1001, 5091]), (14, .iconst 0, 0, 0, 0, []), (15, .istore 4, 0, 0, 0, []), (17, .iconst (-1), 0, 0, 0, []), (18, .istore 5, 0, 0, 0, []), (20, .iconst (-1), 0, 0, 0, []), (21, .istore 6, 0, 0, 0, []), (23, .iconst 1, 0, 0, 0, []), (24, .istore 7, 0, 0, 0, []), (26, .iconst 0, 0, 0, 0, []), (27, .istore 8, 0, 0, 0, []), (29, .aload_n 0, 0, 0, 0, []), (30, .getfield 32, 9, 1, 0, [2219])],
  [(33, .iload_n 3, 0, 0, 0, []), (34, .invokevirtual 40, 53, 1, 3, [6052, 4130, 59, 1003, 4131]), (37, .istore 9, 0, 0, 0, []), (39, .iconst 0, 0, 0, 0, []), (40, .istore 10, 0, 0, 0, []), (42, .iload 10, 0, 0, 0, []), (44, .iload 9, 0, 0, 0, []), (46, .if_icmp .ge 111, 157, 0, 0, []), (49, .aload_n 0, 0, 0, 0, []), (50, .iload_n 1, 0, 0, 0, []), (51, .iload_n 3, 0, 0, 0, []), (52, .iload 10, 0, 0, 0, []), (54, .invokevirtual 76, 135, 3, 9, [6060, 6062, 105, 1014, 6063]), (57, .ifCond .eq 94, 151, 0, 0, []), (60, .aload_n 0, 0, 0, 0, []), (61, .getfield 32, 9, 1, 0, [2219])],
  [(64, .iload_n 3, 0, 0, 0, []), (65, .iload 10, 0, 0, 0, []), (67, .iload_n 1, 0, 0, 0, []), (68, .invokevirtual 64, 58, 3, 3, [6064, 4160, 62, 1003, 4161]), (71, .istore 11, 0, 0, 0, []), (73, .iload 8, 0, 0, 0, []), (75, .aload_n 0, 0, 0, 0, []), (76, .getfield 15, 9, 4, 0, [2222]), (79, .iload 11, 0, 0, 0, []), (81, .invokestatic 68, 199, 2, 1, [6065, 3072, 1001, 3073]), (84, .ifCond .eq 7, 91, 0, 0, []), (87, .iconst 1, 0, 0, 0, []), (88, .goto 4, 92, 0, 0, []), (91, .iconst 0, 0, 0, 0, []), (92, .ior, 0, 0, 0, []), (93, .istore 8, 0, 0, 0, []), (95, .aload_n 0, 0, 0, 0, [])],
  [(96, .getfield 15, 9, 4, 0, [2222]), (99, .iload 11, 0, 0, 0, []), (101, .iconst 1, 0, 0, 0, []), (102, .invokestatic 60, 201, 3, 1, [6059, 1084, 1001, 1085]), (105, .iload 7, 0, 0, 0, []), (107, .iload 4, 0, 0, 0, []), (109, .ifCond .eq 23, 132, 0, 0, []), (112, .iload 10, 0, 0, 0, []), (114, .iload 5, 0, 0, 0, []), (116, .iconst 1, 0, 0, 0, []), (117, .iadd, 0, 0, 0, []), (118, .if_icmp .ne 18, 136, 0, 0, []), (121, .iload 11, 0, 0, 0, []), (123, .aload_n 0, 0, 0, 0, []), (124, .iload 6, 0, 0, 0, []), (126, .invokevirtual 80, 138, 1, 9, [6066, 6068, 106, 1014, 6069])],
  [(129, .if_icmp .ne 7, 136, 0, 0, []), (132, .iconst 1, 0, 0, 0, []), (133, .goto 4, 137, 0, 0, []), (136, .iconst 0, 0, 0, 0, []), (137, .iand, 0, 0, 0, []), (138, .istore 7, 0, 0, 0, []), (140, .iload 10, 0, 0, 0, []), (142, .istore 5, 0, 0, 0, []), (144, .iload 11, 0, 0, 0, []), (146, .istore 6, 0, 0, 0, []), (148, .iinc 4 1, 0, 0, 0, []), (151, .iinc 10 1, 0, 0, 0, []), (154, .goto (-112), 42, 0, 0, []), (157, .iload 8, 0, 0, 0, []), (159, .ifCond .eq 5, 164, 0, 0, [])],
  [(162, .iconst 3, 0, 0, 0, []), (163, .ireturn, 0, 0, 0, []), (164, .iload 4, 0, 0, 0, []), (166, .ifCond .ne 5, 171, 0, 0, []), (169, .iconst 2, 0, 0, 0, []), (170, .ireturn, 0, 0, 0, []), (171, .iload 7, 0, 0, 0, []), (173, .ifCond .eq 16, 189, 0, 0, []), (176, .iload 4, 0, 0, 0, []), (178, .aload_n 0, 0, 0, 0, []), (179, .invokevirtual 83, 139, 0, 9, [6070, 6072, 107, 1014, 6073]), (182, .if_icmp .ne 7, 189, 0, 0, []), (185, .iconst 0, 0, 0, 0, []), (186, .goto 4, 190, 0, 0, []), (189, .iconst 1, 0, 0, 0, []), (190, .ireturn, 0, 0, 0, [])]]
def gP138 : List (List gE) := [
  [(0, .iload_n 1, 0, 0, 0, []), (1, .iconst 1, 0, 0, 0, []), (2, .iadd, 0, 0, 0, []), (3, .istore_n 2, 0, 0, 0, []), (4, .iload_n 2, 0, 0, 0, []), (5, .bipush 60, 0, 0, 0, []), (7, .if_icmp .ge 22, 29, 0, 0, []), (10, .aload_n 0, 0, 0, 0, []), (11, .getfield 9, 9, 3, 0, [2221]), (14, .iload_n 2, 0, 0, 0, []), (15, .invokestatic 68, 199, 2, 1, [6065, 3072, 1001, 3073]), (18, .ifCond .eq 5, 23, 0, 0, []), (21, .iload_n 2, 0, 0, 0, []), (22, .ireturn, 0, 0, 0, []), (23, .iinc 2 1, 0, 0, 0, []), (26, .goto (-22), 4, 0, 0, []), (29, .iconst (-1), 0, 0, 0, []), (30, .ireturn, 0, 0, 0, [])]]
def gP139 : List (List gE) := [
  [(0, .iconst 0, 0, 0, 0, []), (1, .istore_n 1, 0, 0, 0, []), (2, .iconst 0, 0, 0, 0, []), (3, .istore_n 2, 0, 0, 0, []), (4, .iload_n 2, 0, 0, 0, []), (5, .bipush 60, 0, 0, 0, []), (7, .if_icmp .ge 20, 27, 0, 0, []), (10, .iload_n 1, 0, 0, 0, []), (11, .aload_n 0, 0, 0, 0, []), (12, .getfield 9, 9, 3, 0, [2221]), (15, .iload_n 2, 0, 0, 0, []), (16, .invokestatic 68, 199, 2, 1, [6065, 3072, 1001, 3073]), (19, .iadd, 0, 0, 0, []), (20, .istore_n 1, 0, 0, 0, []), (21, .iinc 2 1, 0, 0, 0, []), (24, .goto (-20), 4, 0, 0, []), (27, .iload_n 1, 0, 0, 0, []), (28, .ireturn, 0, 0, 0, [])]]
def gP140 : List (List gE) := [
  [(0, .iload_n 1, 0, 0, 0, []), (1, .istore_n 3, 0, 0, 0, []), (2, .iconst 0, 0, 0, 0, []), (3, .istore 4, 0, 0, 0, []), (5, .iload 4, 0, 0, 0, []), (7, .bipush 20, 0, 0, 0, []), (9, .if_icmp .ge 40, 49, 0, 0, []), (12, .iload_n 3, 0, 0, 0, []), (13, .iload_n 2, 0, 0, 0, []), (14, .if_icmp .eq 35, 49, 0, 0, []), (17, .aload_n 0, 0, 0, 0, []), (18, .getfield 28, 9, 0, 0, [2218]), (21, .iload_n 3, 0, 0, 0, []), (22, .iconst 4, 0, 0, 0, []), (23, .invokevirtual 89, 3, 2, 0, [6191, 5022, 66, 1004, 5023]), (26, .astore 5, 0, 0, 0, []), (28, .aload 5, 0, 0, 0, []), (30, .ifnonnull 7, 37, 0, 0, [])],
  [(33, .iconst (-1), 0, 0, 0, []), (34, .goto 8, 42, 0, 0, []), (37, .aload 5, 0, 0, 0, []), (39, .getfield 95, 7, 3, 1, [4190]), (42, .istore_n 3, 0, 0, 0, []), (43, .iinc 4 1, 0, 0, 0, []), (46, .goto (-41), 5, 0, 0, []), (49, .iload_n 3, 0, 0, 0, []), (50, .iload_n 2, 0, 0, 0, []), (51, .if_icmp .ne 7, 58, 0, 0, []), (54, .iconst 1, 0, 0, 0, []), (55, .goto 4, 59, 0, 0, []), (58, .iconst 0, 0, 0, 0, []), (59, .ireturn, 0, 0, 0, [])]]
def gP141 : List (List gE) := [
  [(0, .aload_n 1, 0, 0, 0, []), (1, .ifnull 26, 27, 0, 0, []), (4, .aload_n 1, 0, 0, 0, []), (5, .getfield 98, 1, 0, 1, [2001]), (8, .ifCond .ne 19, 27, 0, 0, []), (11, .aload_n 0, 0, 0, 0, []), (12, .aload_n 1, 0, 0, 0, []), (13, .getfield 103, 1, 2, 1, [2008]), (16, .iload_n 2, 0, 0, 0, []), (17, .invokevirtual 106, 140, 2, 9, [6187, 6189, 123, 1014, 6190]), (20, .ifCond .eq 7, 27, 0, 0, []), (23, .iconst 1, 0, 0, 0, []), (24, .goto 4, 28, 0, 0, []), (27, .iconst 0, 0, 0, 0, []), (28, .ireturn, 0, 0, 0, [])]]
def gP142 : List (List gE) := [
  [(0, .iconst 0, 0, 0, 0, []), (1, .istore_n 3, 0, 0, 0, []), (2, .iconst 0, 0, 0, 0, []), (3, .istore 4, 0, 0, 0, []), (5, .iload 4, 0, 0, 0, []), (7, .aload_n 1, 0, 0, 0, []), (8, .getfield 109, 6, 2, 1, [4059]), (11, .if_icmp .ge 31, 42, 0, 0, []), (14, .iload_n 3, 0, 0, 0, []), (15, .aload_n 0, 0, 0, 0, []), (16, .aload_n 1, 0, 0, 0, []), (17, .iload 4, 0, 0, 0, []), (19, .invokevirtual 114, 115, 1, 6, [6090, 5124, 79, 1017, 5125]), (22, .iload_n 2, 0, 0, 0, []), (23, .invokevirtual 118, 141, 2, 9, [6183, 6185, 122, 1014, 6186]), (26, .ifCond .eq 7, 33, 0, 0, []), (29, .iconst 1, 0, 0, 0, []), (30, .goto 4, 34, 0, 0, [])],
  [(33, .iconst 0, 0, 0, 0, []), (34, .iadd, 0, 0, 0, []), (35, .istore_n 3, 0, 0, 0, []), (36, .iinc 4 1, 0, 0, 0, []), (39, .goto (-34), 5, 0, 0, []), (42, .iload_n 3, 0, 0, 0, []), (43, .ireturn, 0, 0, 0, [])]]
def gP143 : List (List gE) := [
  [(0, .aload_n 0, 0, 0, 0, []), (1, .getfield 9, 9, 3, 0, [2221]), (4, .iconst 0, 0, 0, 0, []), (5, .invokestatic 46, 203, 2, 1, [6053, 5090, 1001, 5091]), (8, .iconst 0, 0, 0, 0, []), (9, .istore 4, 0, 0, 0, []), (11, .iload 4, 0, 0, 0, []), (13, .aload_n 1, 0, 0, 0, []), (14, .getfield 109, 6, 2, 1, [4059]), (17, .if_icmp .ge 37, 54, 0, 0, []), (20, .aload_n 1, 0, 0, 0, []), (21, .iload 4, 0, 0, 0, []), (23, .invokevirtual 114, 115, 1, 6, [6090, 5124, 79, 1017, 5125]), (26, .astore 5, 0, 0, 0, []), (28, .aload_n 0, 0, 0, 0, []), (29, .aload 5, 0, 0, 0, []), (31, .iload_n 2, 0, 0, 0, [])],
  [(32, .invokevirtual 118, 141, 2, 9, [6183, 6185, 122, 1014, 6186]), (35, .ifCond .eq 13, 48, 0, 0, []), (38, .aload_n 0, 0, 0, 0, []), (39, .aload_n 1, 0, 0, 0, []), (40, .getfield 122, 6, 0, 1, [4054]), (43, .aload 5, 0, 0, 0, []), (45, .invokevirtual 125, 144, 2, 9, [6192, 6194, 124, 1014, 6195]), (48, .iinc 4 1, 0, 0, 0, []), (51, .goto (-40), 11, 0, 0, []), (54, .iconst 0, 0, 0, 0, []), (55, .istore 4, 0, 0, 0, []), (57, .aload_n 0, 0, 0, 0, []), (58, .getfield 32, 9, 1, 0, [2219]), (61, .iload_n 3, 0, 0, 0, []), (62, .invokevirtual 40, 53, 1, 3, [6052, 4130, 59, 1003, 4131])],
  [(65, .istore 5, 0, 0, 0, []), (67, .iconst 0, 0, 0, 0, []), (68, .istore 6, 0, 0, 0, []), (70, .iload 6, 0, 0, 0, []), (72, .iload 5, 0, 0, 0, []), (74, .if_icmp .ge 33, 107, 0, 0, []), (77, .iload 4, 0, 0, 0, []), (79, .aload_n 0, 0, 0, 0, []), (80, .aload_n 1, 0, 0, 0, []), (81, .getfield 122, 6, 0, 1, [4054]), (84, .iload_n 3, 0, 0, 0, []), (85, .iload 6, 0, 0, 0, []), (87, .invokevirtual 76, 135, 3, 9, [6060, 6062, 105, 1014, 6063]), (90, .ifCond .eq 7, 97, 0, 0, []), (93, .iconst 1, 0, 0, 0, []), (94, .goto 4, 98, 0, 0, [])],
  [(97, .iconst 0, 0, 0, 0, []), (98, .iadd, 0, 0, 0, []), (99, .istore 4, 0, 0, 0, []), (101, .iinc 6 1, 0, 0, 0, []), (104, .goto (-34), 70, 0, 0, []), (107, .iload 4, 0, 0, 0, []), (109, .ireturn, 0, 0, 0, [])]]
def gP144 : List (List gE) := [
  [(0, .iconst 4, 0, 0, 0, []), (1, .aload_n 0, 0, 0, 0, []), (2, .getfield 32, 9, 1, 0, [2219]), (5, .iload_n 1, 0, 0, 0, []), (6, .invokevirtual 40, 53, 1, 3, [6052, 4130, 59, 1003, 4131]), (9, .imul, 0, 0, 0, []), (10, .istore_n 3, 0, 0, 0, []), (11, .aload_n 0, 0, 0, 0, []), (12, .getfield 36, 9, 2, 0, [2220]), (15, .aload_n 2, 0, 0, 0, []), (16, .iconst 0, 0, 0, 0, []), (17, .iload_n 3, 0, 0, 0, []), (18, .invokevirtual 50, 37, 3, 2, [6054, 5128, 80, 1012, 5129]), (21, .iconst 0, 0, 0, 0, []), (22, .istore 4, 0, 0, 0, []), (24, .iload 4, 0, 0, 0, []), (26, .iload_n 3, 0, 0, 0, []), (27, .if_icmp .ge 41, 68, 0, 0, []), (30, .aload_n 0, 0, 0, 0, []), (31, .getfield 36, 9, 2, 0, [2220])],
  [(34, .iconst 0, 0, 0, 0, []), (35, .iload 4, 0, 0, 0, []), (37, .invokevirtual 128, 39, 2, 2, [6196, 5190, 91, 1012, 5191]), (40, .aload_n 2, 0, 0, 0, []), (41, .getfield 132, 1, 10, 1, [2044]), (44, .invokestatic 135, 41, 2, 1, [6197, 5193, 1012, 5194]), (47, .ifCond .eq 15, 62, 0, 0, []), (50, .aload_n 0, 0, 0, 0, []), (51, .getfield 9, 9, 3, 0, [2221]), (54, .iload 4, 0, 0, 0, []), (56, .iconst 4, 0, 0, 0, []), (57, .idiv, 0, 0, 0, []), (58, .iconst 1, 0, 0, 0, []), (59, .invokestatic 60, 201, 3, 1, [6059, 1084, 1001, 1085]), (62, .iinc 4 1, 0, 0, 0, [])],
  [(65, .goto (-41), 24, 0, 0, []), (68, .return_, 0, 0, 0, [])]]
def gP145 : List (List gE) := [
  [(0, .iload_n 2, 0, 0, 0, []), (1, .istore_n 3, 0, 0, 0, []), (2, .iconst 0, 0, 0, 0, []), (3, .istore 4, 0, 0, 0, []), (5, .iload 4, 0, 0, 0, []), (7, .aload_n 1, 0, 0, 0, []), (8, .getfield 109, 6, 2, 1, [4059]), (11, .if_icmp .ge 65, 76, 0, 0, []), (14, .iload 4, 0, 0, 0, []), (16, .iconst 1, 0, 0, 0, []), (17, .iadd, 0, 0, 0, []), (18, .istore 5, 0, 0, 0, []), (20, .iload 5, 0, 0, 0, []), (22, .aload_n 1, 0, 0, 0, []), (23, .getfield 109, 6, 2, 1, [4059]), (26, .if_icmp .ge 44, 70, 0, 0, []), (29, .aload_n 0, 0, 0, 0, []), (30, .aload_n 1, 0, 0, 0, []), (31, .iload 4, 0, 0, 0, [])],
  [(33, .invokevirtual 114, 115, 1, 6, [6090, 5124, 79, 1017, 5125]), (36, .aload_n 1, 0, 0, 0, []), (37, .iload 5, 0, 0, 0, []), (39, .invokevirtual 114, 115, 1, 6, [6090, 5124, 79, 1017, 5125]), (42, .invokevirtual 138, 146, 2, 9, [6091, 6093, 110, 1014, 6094]), (45, .ifCond .eq 19, 64, 0, 0, []), (48, .iload_n 3, 0, 0, 0, []), (49, .ifCond .ne 12, 61, 0, 0, []), (52, .bipush 64, 0, 0, 0, []), (54, .iload 4, 0, 0, 0, []), (56, .imul, 0, 0, 0, []), (57, .iload 5, 0, 0, 0, []), (59, .iadd, 0, 0, 0, []), (60, .ireturn, 0, 0, 0, []), (61, .iinc 3 (-1), 0, 0, 0, [])],
  [(64, .iinc 5 1, 0, 0, 0, []), (67, .goto (-47), 20, 0, 0, []), (70, .iinc 4 1, 0, 0, 0, []), (73, .goto (-68), 5, 0, 0, []), (76, .iconst (-1), 0, 0, 0, []), (77, .ireturn, 0, 0, 0, [])]]
def gP146 : List (List gE) := [
  [(0, .aload_n 1, 0, 0, 0, []), (1, .ifnull 34, 35, 0, 0, []), (4, .aload_n 2, 0, 0, 0, []), (5, .ifnull 30, 35, 0, 0, []), (8, .aload_n 1, 0, 0, 0, []), (9, .getfield 98, 1, 0, 1, [2001]), (12, .iconst 1, 0, 0, 0, []), (13, .if_icmp .ne 22, 35, 0, 0, []), (16, .aload_n 2, 0, 0, 0, []), (17, .getfield 98, 1, 0, 1, [2001]), (20, .iconst 1, 0, 0, 0, []), (21, .if_icmp .ne 14, 35, 0, 0, []), (24, .aload_n 1, 0, 0, 0, []), (25, .getfield 142, 1, 3, 1, [2014]), (28, .aload_n 2, 0, 0, 0, []), (29, .getfield 142, 1, 3, 1, [2014])],
  [(32, .if_icmp .eq 5, 37, 0, 0, []), (35, .iconst 0, 0, 0, 0, []), (36, .ireturn, 0, 0, 0, []), (37, .aload_n 0, 0, 0, 0, []), (38, .getfield 28, 9, 0, 0, [2218]), (41, .aload_n 1, 0, 0, 0, []), (42, .getfield 145, 1, 4, 1, [2020]), (45, .aload_n 1, 0, 0, 0, []), (46, .getfield 148, 1, 5, 1, [2025]), (49, .invokevirtual 151, 8, 2, 0, [6095, 5147, 83, 1004, 5148]), (52, .istore_n 3, 0, 0, 0, []), (53, .aload_n 0, 0, 0, 0, []), (54, .getfield 28, 9, 0, 0, [2218]), (57, .aload_n 2, 0, 0, 0, []), (58, .getfield 145, 1, 4, 1, [2020]), (61, .aload_n 2, 0, 0, 0, []), (62, .getfield 148, 1, 5, 1, [2025])],
  [(65, .invokevirtual 151, 8, 2, 0, [6095, 5147, 83, 1004, 5148]), (68, .istore 4, 0, 0, 0, []), (70, .iload_n 3, 0, 0, 0, []), (71, .iload 4, 0, 0, 0, []), (73, .if_icmp .le 28, 101, 0, 0, []), (76, .iload_n 3, 0, 0, 0, []), (77, .aload_n 0, 0, 0, 0, []), (78, .getfield 28, 9, 0, 0, [2218]), (81, .aload_n 2, 0, 0, 0, []), (82, .getfield 154, 1, 6, 1, [2030]), (85, .aload_n 2, 0, 0, 0, []), (86, .getfield 157, 1, 7, 1, [2034]), (89, .invokevirtual 151, 8, 2, 0, [6095, 5147, 83, 1004, 5148]), (92, .if_icmp .ge 7, 99, 0, 0, []), (95, .iconst 1, 0, 0, 0, [])],
  [(96, .goto 4, 100, 0, 0, []), (99, .iconst 0, 0, 0, 0, []), (100, .ireturn, 0, 0, 0, []), (101, .iload 4, 0, 0, 0, []), (103, .aload_n 0, 0, 0, 0, []), (104, .getfield 28, 9, 0, 0, [2218]), (107, .aload_n 1, 0, 0, 0, []), (108, .getfield 154, 1, 6, 1, [2030]), (111, .aload_n 1, 0, 0, 0, []), (112, .getfield 157, 1, 7, 1, [2034]), (115, .invokevirtual 151, 8, 2, 0, [6095, 5147, 83, 1004, 5148]), (118, .if_icmp .ge 7, 125, 0, 0, []), (121, .iconst 1, 0, 0, 0, []), (122, .goto 4, 126, 0, 0, []), (125, .iconst 0, 0, 0, 0, []), (126, .ireturn, 0, 0, 0, [])]]
def gP147 : List (List gE) := [
  [(0, .aload_n 0, 0, 0, 0, []), (1, .bipush 9, 0, 0, 0, []), (3, .putfield 25, 9, 7, 0, [2225]), (6, .iconst 0, 0, 0, 0, []), (7, .istore 5, 0, 0, 0, []), (9, .iload 5, 0, 0, 0, []), (11, .bipush 24, 0, 0, 0, []), (13, .if_icmp .gt 28, 41, 0, 0, []), (16, .aload_n 0, 0, 0, 0, []), (17, .aload_n 1, 0, 0, 0, []), (18, .aload_n 2, 0, 0, 0, []), (19, .iload_n 3, 0, 0, 0, []), (20, .iload 5, 0, 0, 0, []), (22, .ineg, 0, 0, 0, []), (23, .invokevirtual 160, 148, 4, 9, [6163, 6165, 119, 1014, 6166]), (26, .aload_n 0, 0, 0, 0, []), (27, .aload_n 1, 0, 0, 0, []), (28, .aload_n 2, 0, 0, 0, []), (29, .iload_n 3, 0, 0, 0, []), (30, .iload 5, 0, 0, 0, [])],
  [(32, .invokevirtual 160, 148, 4, 9, [6163, 6165, 119, 1014, 6166]), (35, .iinc 5 1, 0, 0, 0, []), (38, .goto (-29), 9, 0, 0, []), (41, .iload 4, 0, 0, 0, []), (43, .tableswitch 40 0 2 #[25, 30, 35], 0, 0, 0, [])],
  [(68, .aload_n 0, 0, 0, 0, []), (69, .getfield 25, 9, 7, 0, [2225]), (72, .ireturn, 0, 0, 0, []), (73, .aload_n 0, 0, 0, 0, []), (74, .getfield 18, 9, 5, 0, [2223]), (77, .ireturn, 0, 0, 0, []), (78, .aload_n 0, 0, 0, 0, []), (79, .getfield 22, 9, 6, 0, [2224]), (82, .ireturn, 0, 0, 0, []), (83, .iconst (-1), 0, 0, 0, []), (84, .ireturn, 0, 0, 0, [])]]
def gP148 : List (List gE) := [
  [(0, .aload_n 0, 0, 0, 0, []), (1, .aload_n 1, 0, 0, 0, []), (2, .aload_n 2, 0, 0, 0, []), (3, .iload_n 3, 0, 0, 0, []), (4, .iload 4, 0, 0, 0, []), (6, .bipush 10, 0, 0, 0, []), (8, .invokevirtual 164, 149, 5, 9, [6167, 6169, 120, 1014, 6170]), (11, .aload_n 0, 0, 0, 0, []), (12, .aload_n 1, 0, 0, 0, []), (13, .aload_n 2, 0, 0, 0, []), (14, .iload_n 3, 0, 0, 0, []), (15, .iload 4, 0, 0, 0, []), (17, .bipush 9, 0, 0, 0, []), (19, .invokevirtual 164, 149, 5, 9, [6167, 6169, 120, 1014, 6170]), (22, .aload_n 0, 0, 0, 0, []), (23, .aload_n 1, 0, 0, 0, []), (24, .aload_n 2, 0, 0, 0, []), (25, .iload_n 3, 0, 0, 0, []), (26, .iload 4, 0, 0, 0, []), (28, .bipush 11, 0, 0, 0, []), (30, .invokevirtual 164, 149, 5, 9, [6167, 6169, 120, 1014, 6170])],
  [(33, .return_, 0, 0, 0, [])]]
def gP149 : List (List gE) := [
  [(0, .iconst 0, 0, 0, 0, []), (1, .istore 6, 0, 0, 0, []), (3, .iconst 0, 0, 0, 0, []), (4, .istore 7, 0, 0, 0, []), (6, .iload 7, 0, 0, 0, []), (8, .aload_n 1, 0, 0, 0, []), (9, .getfield 168, 7, 7, 1, [4202]), (12, .if_icmp .ge 49, 61, 0, 0, []), (15, .iload 4, 0, 0, 0, []), (17, .aload_n 1, 0, 0, 0, []), (18, .getfield 171, 7, 5, 1, [4196]), (21, .iload 7, 0, 0, 0, []), (23, .invokestatic 68, 199, 2, 1, [6065, 3072, 1001, 3073]), (26, .iload 5, 0, 0, 0, []), (28, .imul, 0, 0, 0, []), (29, .bipush 10, 0, 0, 0, []), (31, .idiv, 0, 0, 0, [])],
  [(32, .iadd, 0, 0, 0, []), (33, .istore 8, 0, 0, 0, []), (35, .iload 6, 0, 0, 0, []), (37, .aload_n 2, 0, 0, 0, []), (38, .iload 8, 0, 0, 0, []), (40, .iload_n 3, 0, 0, 0, []), (41, .invokestatic 174, 150, 3, 0, [6171, 6172, 1014, 6173]), (44, .ifCond .eq 7, 51, 0, 0, []), (47, .iconst 0, 0, 0, 0, []), (48, .goto 4, 52, 0, 0, []), (51, .iconst 1, 0, 0, 0, []), (52, .iadd, 0, 0, 0, []), (53, .istore 6, 0, 0, 0, []), (55, .iinc 7 1, 0, 0, 0, []), (58, .goto (-52), 6, 0, 0, []), (61, .iload 6, 0, 0, 0, []), (63, .aload_n 0, 0, 0, 0, [])],
  [(64, .getfield 25, 9, 7, 0, [2225]), (67, .if_icmp .ge 21, 88, 0, 0, []), (70, .aload_n 0, 0, 0, 0, []), (71, .iload 6, 0, 0, 0, []), (73, .putfield 25, 9, 7, 0, [2225]), (76, .aload_n 0, 0, 0, 0, []), (77, .iload 4, 0, 0, 0, []), (79, .putfield 18, 9, 5, 0, [2223]), (82, .aload_n 0, 0, 0, 0, []), (83, .iload 5, 0, 0, 0, []), (85, .putfield 22, 9, 6, 0, [2224]), (88, .return_, 0, 0, 0, [])]]
def gP150 : List (List gE) := [
  [(0, .iconst 0, 0, 0, 0, []), (1, .istore_n 3, 0, 0, 0, []), (2, .iload_n 3, 0, 0, 0, []), (3, .aload_n 0, 0, 0, 0, []), (4, .getfield 168, 7, 7, 1, [4202]), (7, .if_icmp .ge 28, 35, 0, 0, []), (10, .aload_n 0, 0, 0, 0, []), (11, .getfield 171, 7, 5, 1, [4196]), (14, .iload_n 3, 0, 0, 0, []), (15, .invokestatic 68, 199, 2, 1, [6065, 3072, 1001, 3073]), (18, .iload_n 1, 0, 0, 0, []), (19, .isub, 0, 0, 0, []), (20, .invokestatic 178, 316, 1, 0, [6174, 6110, 1016, 6111]), (23, .iload_n 2, 0, 0, 0, []), (24, .if_icmp .gt 5, 29, 0, 0, []), (27, .iconst 1, 0, 0, 0, []), (28, .ireturn, 0, 0, 0, []), (29, .iinc 3 1, 0, 0, 0, [])],
  [(32, .goto (-30), 2, 0, 0, []), (35, .iconst 0, 0, 0, 0, []), (36, .ireturn, 0, 0, 0, [])]]
def gP151 : List (List gE) := [
  [(0, .aload_n 0, 0, 0, 0, []), (1, .invokespecial 3, 9999, 0, 0, [2171, 1027, 1028]), (4, .aload_n 0, 0, 0, 0, []), (5, .aconst_null, 0, 0, 0, []), (6, .putfield 9, 10, 0, 0, [2172]), (9, .aload_n 0, 0, 0, 0, []), (10, .iconst 0, 0, 0, 0, []), (11, .putfield 15, 10, 1, 0, [2173]), (14, .aload_n 0, 0, 0, 0, []), (15, .iconst 0, 0, 0, 0, []), (16, .putfield 19, 10, 2, 0, [2174]), (19, .return_, 0, 0, 0, [])]]
def gP152 : List (List gE) := [
  [(0, .ldc 22, 0, 0, 1000000, [5135]), (2, .istore_n 3, 0, 0, 0, []), (3, .aload_n 0, 0, 0, 0, []), (4, .iconst 0, 0, 0, 0, []), (5, .putfield 15, 10, 1, 0, [2173]), (8, .aload_n 0, 0, 0, 0, []), (9, .iconst 0, 0, 0, 0, []), (10, .putfield 19, 10, 2, 0, [2174]), (13, .aload_n 0, 0, 0, 0, []), (14, .aload_n 1, 0, 0, 0, []), (15, .iload_n 2, 0, 0, 0, []), (16, .invokevirtual 23, 2, 1, 0, [5136, 5014, 65, 1004, 5015]), (19, .putfield 9, 10, 0, 0, [2172]), (22, .iconst 0, 0, 0, 0, []), (23, .istore 4, 0, 0, 0, []), (25, .iload 4, 0, 0, 0, []), (27, .bipush 20, 0, 0, 0, []), (29, .if_icmp .ge 78, 107, 0, 0, [])],
  [(32, .aload_n 0, 0, 0, 0, []), (33, .getfield 9, 10, 0, 0, [2172]), (36, .ifnull 71, 107, 0, 0, []), (39, .aload_n 0, 0, 0, 0, []), (40, .getfield 9, 10, 0, 0, [2172]), (43, .getfield 29, 7, 0, 1, [4176]), (46, .iconst 4, 0, 0, 0, []), (47, .if_icmp .ne 60, 107, 0, 0, []), (50, .aload_n 0, 0, 0, 0, []), (51, .dup, 0, 0, 0, []), (52, .getfield 15, 10, 1, 0, [2173]), (55, .aload_n 0, 0, 0, 0, []), (56, .getfield 9, 10, 0, 0, [2172]), (59, .getfield 34, 7, 1, 1, [4181]), (62, .iadd, 0, 0, 0, []), (63, .putfield 15, 10, 1, 0, [2173])],
  [(66, .iload_n 3, 0, 0, 0, []), (67, .aload_n 0, 0, 0, 0, []), (68, .getfield 9, 10, 0, 0, [2172]), (71, .getfield 34, 7, 1, 1, [4181]), (74, .iadd, 0, 0, 0, []), (75, .aload_n 0, 0, 0, 0, []), (76, .getfield 9, 10, 0, 0, [2172]), (79, .getfield 37, 7, 2, 1, [4185]), (82, .invokestatic 40, 319, 2, 0, [5137, 5138, 1016, 5139]), (85, .istore_n 3, 0, 0, 0, []), (86, .aload_n 0, 0, 0, 0, []), (87, .aload_n 1, 0, 0, 0, []), (88, .aload_n 0, 0, 0, 0, []), (89, .getfield 9, 10, 0, 0, [2172]), (92, .getfield 46, 7, 3, 1, [4189]), (95, .invokevirtual 23, 2, 1, 0, [5136, 5014, 65, 1004, 5015])],
  [(98, .putfield 9, 10, 0, 0, [2172]), (101, .iinc 4 1, 0, 0, 0, []), (104, .goto (-79), 25, 0, 0, []), (107, .aload_n 0, 0, 0, 0, []), (108, .getfield 9, 10, 0, 0, [2172]), (111, .ifnull 28, 139, 0, 0, []), (114, .aload_n 0, 0, 0, 0, []), (115, .iconst 0, 0, 0, 0, []), (116, .iload_n 3, 0, 0, 0, []), (117, .aload_n 1, 0, 0, 0, []), (118, .aload_n 0, 0, 0, 0, []), (119, .getfield 9, 10, 0, 0, [2172]), (122, .invokevirtual 49, 9, 1, 0, [5140, 5142, 82, 1004, 5143]), (125, .invokestatic 40, 319, 2, 0, [5137, 5138, 1016, 5139])],
  [(128, .aload_n 0, 0, 0, 0, []), (129, .getfield 15, 10, 1, 0, [2173]), (132, .isub, 0, 0, 0, []), (133, .invokestatic 53, 317, 2, 0, [5144, 3102, 1016, 3103]), (136, .putfield 19, 10, 2, 0, [2174]), (139, .return_, 0, 0, 0, [])]]
def gP153 : List (List gE) := [
  [(0, .aload_n 0, 0, 0, 0, []), (1, .getfield 9, 10, 0, 0, [2172]), (4, .ifnull 26, 30, 0, 0, []), (7, .aload_n 0, 0, 0, 0, []), (8, .getfield 9, 10, 0, 0, [2172]), (11, .getfield 29, 7, 0, 1, [4176]), (14, .iconst 5, 0, 0, 0, []), (15, .if_icmp .eq 15, 30, 0, 0, []), (18, .iload_n 1, 0, 0, 0, []), (19, .ifCond .lt 11, 30, 0, 0, []), (22, .iload_n 1, 0, 0, 0, []), (23, .aload_n 0, 0, 0, 0, []), (24, .getfield 19, 10, 2, 0, [2174]), (27, .if_icmp .lt 5, 32, 0, 0, []), (30, .iconst 0, 0, 0, 0, []), (31, .ireturn, 0, 0, 0, [])],
  [(32, .aload_n 0, 0, 0, 0, []), (33, .getfield 9, 10, 0, 0, [2172]), (36, .getfield 56, 7, 4, 1, [4193]), (39, .aload_n 0, 0, 0, 0, []), (40, .getfield 15, 10, 1, 0, [2173]), (43, .iload_n 1, 0, 0, 0, []), (44, .iadd, 0, 0, 0, []), (45, .invokestatic 60, 199, 2, 1, [5158, 3072, 1001, 3073]), (48, .ireturn, 0, 0, 0, [])]]
def gP154 : List (List gE) := [
  [(0, .aload_n 0, 0, 0, 0, []), (1, .invokespecial 1, 9999, 0, 0, [1026, 1027, 1028]), (4, .aload_n 0, 0, 0, 0, []), (5, .sipush 2000, 0, 0, 0, []), (8, .newarray .int, 0, 0, 0, [1076]), (10, .putfield 9, 11, 0, 0, [3005]), (13, .aload_n 0, 0, 0, 0, []), (14, .iconst 0, 0, 0, 0, []), (15, .putfield 13, 11, 1, 0, [3006]), (18, .aload_n 0, 0, 0, 0, []), (19, .iconst (-1), 0, 0, 0, []), (20, .putfield 17, 11, 2, 0, [3007]), (23, .aload_n 0, 0, 0, 0, []), (24, .bipush 8, 0, 0, 0, []), (26, .anewarray 20, 4, 0, 0, [1029, 1030]), (29, .putfield 22, 11, 3, 0, [3008])],
  [(32, .aload_n 0, 0, 0, 0, []), (33, .iconst 0, 0, 0, 0, []), (34, .putfield 26, 11, 4, 0, [3009]), (37, .aload_n 0, 0, 0, 0, []), (38, .new 29, 5, 0, 0, [1031, 1032, 1002]), (41, .dup, 0, 0, 0, []), (42, .invokespecial 31, 96, 0, 1, [1033, 1034, 1002, 1035]), (45, .putfield 32, 11, 5, 0, [3010]), (48, .aload_n 0, 0, 0, 0, []), (49, .new 36, 3, 0, 0, [1077, 1078, 1003]), (52, .dup, 0, 0, 0, []), (53, .invokespecial 38, 50, 0, 1, [1079, 1080, 1003, 1081]), (56, .putfield 39, 11, 6, 0, [3011]), (59, .aload_n 0, 0, 0, 0, []), (60, .new 43, 0, 0, 0, [1102, 1103, 1004]), (63, .dup, 0, 0, 0, [])],
  [(64, .invokespecial 45, 1, 0, 1, [1104, 1105, 1004, 1106]), (67, .putfield 46, 11, 7, 0, [3012]), (70, .aload_n 0, 0, 0, 0, []), (71, .new 50, 4, 0, 0, [1137, 1138, 1005]), (74, .dup, 0, 0, 0, []), (75, .invokespecial 52, 59, 0, 1, [1139, 1140, 1005, 1141]), (78, .putfield 53, 11, 8, 0, [3013]), (81, .aload_n 0, 0, 0, 0, []), (82, .new 57, 2, 0, 0, [2160, 2161, 1012]), (85, .dup, 0, 0, 0, []), (86, .aload_n 0, 0, 0, 0, []), (87, .getfield 46, 11, 7, 0, [3012]), (90, .aload_n 0, 0, 0, 0, []), (91, .getfield 39, 11, 6, 0, [3011]), (94, .invokespecial 59, 27, 2, 1, [2162, 2163, 1012, 2164])],
  [(97, .putfield 62, 11, 9, 0, [3014]), (100, .aload_n 0, 0, 0, 0, []), (101, .new 66, 9, 0, 0, [2212, 2213, 1014]), (104, .dup, 0, 0, 0, []), (105, .aload_n 0, 0, 0, 0, []), (106, .getfield 46, 11, 7, 0, [3012]), (109, .aload_n 0, 0, 0, 0, []), (110, .getfield 39, 11, 6, 0, [3011]), (113, .aload_n 0, 0, 0, 0, []), (114, .getfield 62, 11, 9, 0, [3014]), (117, .invokespecial 68, 133, 3, 1, [2214, 2215, 1014, 2216]), (120, .putfield 71, 11, 10, 0, [3015]), (123, .aload_n 0, 0, 0, 0, []), (124, .new 75, 10, 0, 0, [3003, 2167, 1013]), (127, .dup, 0, 0, 0, [])],
  [(128, .invokespecial 77, 151, 0, 1, [3004, 2169, 1013, 2170]), (131, .putfield 78, 11, 11, 0, [3016]), (134, .return_, 0, 0, 0, [])]]
def gP155 : List (List gE) := [
  [(0, .aload_n 0, 0, 0, 0, []), (1, .getfield 13, 11, 1, 0, [3006]), (4, .bipush 20, 0, 0, 0, []), (6, .iadd, 0, 0, 0, []), (7, .sipush 2000, 0, 0, 0, []), (10, .if_icmp .le 5, 15, 0, 0, []), (13, .iconst (-1), 0, 0, 0, []), (14, .ireturn, 0, 0, 0, []), (15, .aload_n 0, 0, 0, 0, []), (16, .iload_n 1, 0, 0, 0, []), (17, .invokevirtual 82, 192, 1, 11, [3046, 3048, 1, 1001, 3049]), (20, .aload_n 0, 0, 0, 0, []), (21, .iload_n 2, 0, 0, 0, []), (22, .invokevirtual 82, 192, 1, 11, [3046, 3048, 1, 1001, 3049]), (25, .aload_n 0, 0, 0, 0, []), (26, .iload_n 3, 0, 0, 0, []), (27, .invokevirtual 82, 192, 1, 11, [3046, 3048, 1, 1001, 3049]), (30, .aload_n 0, 0, 0, 0, []), (31, .iload 4, 0, 0, 0, [])],
  [(33, .invokevirtual 82, 192, 1, 11, [3046, 3048, 1, 1001, 3049]), (36, .aload_n 0, 0, 0, 0, []), (37, .iload 5, 0, 0, 0, []), (39, .invokevirtual 82, 192, 1, 11, [3046, 3048, 1, 1001, 3049]), (42, .aload_n 0, 0, 0, 0, []), (43, .getfield 13, 11, 1, 0, [3006]), (46, .ireturn, 0, 0, 0, [])]]
def gP156 : List (List gE) := [
  [(0, .iload_n 1, 0, 0, 0, []), (1, .ifCond .lt 11, 12, 0, 0, []), (4, .iload_n 1, 0, 0, 0, []), (5, .aload_n 0, 0, 0, 0, []), (6, .getfield 13, 11, 1, 0, [3006]), (9, .if_icmp .le 5, 14, 0, 0, []), (12, .iconst (-1), 0, 0, 0, []), (13, .ireturn, 0, 0, 0, []), (14, .aload_n 0, 0, 0, 0, []), (15, .dup, 0, 0, 0, []), (16, .getfield 13, 11, 1, 0, [3006]), (19, .iload_n 1, 0, 0, 0, []), (20, .isub, 0, 0, 0, []), (21, .putfield 13, 11, 1, 0, [3006]), (24, .aload_n 0, 0, 0, 0, []), (25, .getfield 13, 11, 1, 0, [3006]), (28, .ireturn, 0, 0, 0, [])]]
def gP157 : List (List gE) := [
  [(0, .aload_n 0, 0, 0, 0, []), (1, .getfield 26, 11, 4, 0, [3009]), (4, .bipush 8, 0, 0, 0, []), (6, .if_icmp .lt 6, 12, 0, 0, []), (9, .bipush (-2), 0, 0, 0, []), (11, .ireturn, 0, 0, 0, []), (12, .aload_n 0, 0, 0, 0, []), (13, .getfield 53, 11, 8, 0, [3013]), (16, .aload_n 0, 0, 0, 0, []), (17, .getfield 9, 11, 0, 0, [3005]), (20, .aload_n 0, 0, 0, 0, []), (21, .getfield 13, 11, 1, 0, [3006]), (24, .invokevirtual 86, 60, 2, 4, [3059, 3061, 2, 1005, 3062]), (27, .istore_n 1, 0, 0, 0, []), (28, .aload_n 0, 0, 0, 0, []), (29, .aload_n 0, 0, 0, 0, []), (30, .getfield 53, 11, 8, 0, [3013])],
  [(33, .invokevirtual 90, 62, 0, 4, [4030, 4032, 47, 1005, 4033]), (36, .putfield 17, 11, 2, 0, [3007]), (39, .aload_n 0, 0, 0, 0, []), (40, .iconst 0, 0, 0, 0, []), (41, .putfield 13, 11, 1, 0, [3006]), (44, .iload_n 1, 0, 0, 0, []), (45, .ifCond .ne 31, 76, 0, 0, []), (48, .aload_n 0, 0, 0, 0, []), (49, .getfield 53, 11, 8, 0, [3013]), (52, .getfield 94, 4, 7, 1, [2118]), (55, .ifCond .eq 21, 76, 0, 0, []), (58, .aload_n 0, 0, 0, 0, []), (59, .aload_n 0, 0, 0, 0, []), (60, .getfield 53, 11, 8, 0, [3013]), (63, .aload_n 0, 0, 0, 0, [])],
  [(64, .getfield 32, 11, 5, 0, [3010]), (67, .invokevirtual 98, 63, 1, 4, [4034, 4036, 48, 1005, 4037]), (70, .putfield 32, 11, 5, 0, [3010]), (73, .goto 11, 84, 0, 0, []), (76, .iload_n 1, 0, 0, 0, []), (77, .ifCond .ne 7, 84, 0, 0, []), (80, .aload_n 0, 0, 0, 0, []), (81, .invokevirtual 102, 193, 0, 11, [4038, 4040, 49, 1001, 4041]), (84, .iload_n 1, 0, 0, 0, []), (85, .ireturn, 0, 0, 0, [])]]
def gP158 : List (List gE) := [
  [(0, .aload_n 0, 0, 0, 0, []), (1, .getfield 17, 11, 2, 0, [3007]), (4, .ireturn, 0, 0, 0, [])]]
def gP159 : List (List gE) := [
  [(0, .aload_n 0, 0, 0, 0, []), (1, .getfield 26, 11, 4, 0, [3009]), (4, .ifCond .ne 18, 22, 0, 0, []), (7, .aload_n 0, 0, 0, 0, []), (8, .getfield 39, 11, 6, 0, [3011]), (11, .iload_n 1, 0, 0, 0, []), (12, .invokevirtual 105, 54, 1, 3, [4116, 4118, 57, 1003, 4119]), (15, .ifCond .eq 7, 22, 0, 0, []), (18, .iconst 1, 0, 0, 0, []), (19, .goto 4, 23, 0, 0, []), (22, .iconst 0, 0, 0, 0, []), (23, .ireturn, 0, 0, 0, [])]]
def gP160 : List (List gE) := [
  [(0, .aload_n 0, 0, 0, 0, []), (1, .getfield 39, 11, 6, 0, [3011]), (4, .invokevirtual 109, 55, 0, 3, [4124, 4126, 58, 1003, 4127]), (7, .ireturn, 0, 0, 0, [])]]
def gP161 : List (List gE) := [
  [(0, .iload_n 1, 0, 0, 0, []), (1, .ifCond .lt 28, 29, 0, 0, []), (4, .iload_n 2, 0, 0, 0, []), (5, .iload_n 1, 0, 0, 0, []), (6, .if_icmp .le 23, 29, 0, 0, []), (9, .iload_n 2, 0, 0, 0, []), (10, .aload_n 0, 0, 0, 0, []), (11, .getfield 39, 11, 6, 0, [3011]), (14, .aload_n 0, 0, 0, 0, []), (15, .getfield 39, 11, 6, 0, [3011]), (18, .invokevirtual 112, 52, 0, 3, [4043, 4045, 50, 1003, 4046]), (21, .iconst 1, 0, 0, 0, []), (22, .isub, 0, 0, 0, []), (23, .invokevirtual 115, 53, 1, 3, [4137, 4130, 59, 1003, 4131]), (26, .if_icmp .le 5, 31, 0, 0, []), (29, .iconst (-1), 0, 0, 0, []), (30, .ireturn, 0, 0, 0, []), (31, .aload_n 0, 0, 0, 0, [])],
  [(32, .getfield 39, 11, 6, 0, [3011]), (35, .iload_n 1, 0, 0, 0, []), (36, .iload_n 2, 0, 0, 0, []), (37, .iload_n 1, 0, 0, 0, []), (38, .isub, 0, 0, 0, []), (39, .invokevirtual 119, 57, 2, 3, [4138, 4140, 60, 1003, 4141]), (42, .ireturn, 0, 0, 0, [])]]
def gP162 : List (List gE) := [
  [(0, .aload_n 0, 0, 0, 0, []), (1, .getfield 39, 11, 6, 0, [3011]), (4, .iconst (-1), 0, 0, 0, []), (5, .iload_n 1, 0, 0, 0, []), (6, .invokevirtual 119, 57, 2, 3, [4138, 4140, 60, 1003, 4141]), (9, .ireturn, 0, 0, 0, [])]]
def gP163 : List (List gE) := [
  [(0, .aload_n 0, 0, 0, 0, []), (1, .getfield 39, 11, 6, 0, [3011]), (4, .iload_n 1, 0, 0, 0, []), (5, .invokevirtual 123, 51, 1, 3, [4150, 4152, 61, 1003, 4153]), (8, .ifCond .eq 14, 22, 0, 0, []), (11, .aload_n 0, 0, 0, 0, []), (12, .getfield 39, 11, 6, 0, [3011]), (15, .iload_n 1, 0, 0, 0, []), (16, .invokevirtual 115, 53, 1, 3, [4137, 4130, 59, 1003, 4131]), (19, .goto 4, 23, 0, 0, []), (22, .iconst (-1), 0, 0, 0, []), (23, .ireturn, 0, 0, 0, [])]]
def gP164 : List (List gE) := [
  [(0, .aload_n 0, 0, 0, 0, []), (1, .getfield 39, 11, 6, 0, [3011]), (4, .iload_n 1, 0, 0, 0, []), (5, .invokevirtual 123, 51, 1, 3, [4150, 4152, 61, 1003, 4153]), (8, .ifCond .eq 35, 43, 0, 0, []), (11, .aload_n 0, 0, 0, 0, []), (12, .getfield 39, 11, 6, 0, [3011]), (15, .iload_n 3, 0, 0, 0, []), (16, .invokevirtual 123, 51, 1, 3, [4150, 4152, 61, 1003, 4153]), (19, .ifCond .eq 24, 43, 0, 0, []), (22, .iload_n 3, 0, 0, 0, []), (23, .iload_n 1, 0, 0, 0, []), (24, .if_icmp .gt 19, 43, 0, 0, []), (27, .iload_n 2, 0, 0, 0, []), (28, .ifCond .lt 15, 43, 0, 0, []), (31, .iload_n 2, 0, 0, 0, [])],
  [(32, .aload_n 0, 0, 0, 0, []), (33, .getfield 39, 11, 6, 0, [3011]), (36, .iload_n 1, 0, 0, 0, []), (37, .invokevirtual 115, 53, 1, 3, [4137, 4130, 59, 1003, 4131]), (40, .if_icmp .lt 6, 46, 0, 0, []), (43, .bipush (-2), 0, 0, 0, []), (45, .ireturn, 0, 0, 0, []), (46, .aload_n 0, 0, 0, 0, []), (47, .getfield 39, 11, 6, 0, [3011]), (50, .iload_n 1, 0, 0, 0, []), (51, .iload_n 2, 0, 0, 0, []), (52, .iload_n 3, 0, 0, 0, []), (53, .invokevirtual 126, 58, 3, 3, [4158, 4160, 62, 1003, 4161]), (56, .ireturn, 0, 0, 0, [])]]
def gP165 : List (List gE) := [
  [(0, .iload_n 1, 0, 0, 0, []), (1, .ifCond .lt 24, 25, 0, 0, []), (4, .iload_n 1, 0, 0, 0, []), (5, .iconst 3, 0, 0, 0, []), (6, .if_icmp .gt 19, 25, 0, 0, []), (9, .iload_n 2, 0, 0, 0, []), (10, .ifCond .eq 15, 25, 0, 0, []), (13, .iload_n 2, 0, 0, 0, []), (14, .iconst (-1), 0, 0, 0, []), (15, .if_icmp .lt 10, 25, 0, 0, []), (18, .iload_n 2, 0, 0, 0, []), (19, .sipush 240, 0, 0, 0, []), (22, .if_icmp .le 5, 27, 0, 0, []), (25, .iconst (-1), 0, 0, 0, []), (26, .ireturn, 0, 0, 0, []), (27, .iload_n 2, 0, 0, 0, []), (28, .iconst (-1), 0, 0, 0, []), (29, .if_icmp .ne 9, 38, 0, 0, [])],
  [(32, .sipush 240, 0, 0, 0, []), (35, .goto 4, 39, 0, 0, []), (38, .iload_n 2, 0, 0, 0, []), (39, .istore 5, 0, 0, 0, []), (41, .iload_n 1, 0, 0, 0, []), (42, .iconst 1, 0, 0, 0, []), (43, .if_icmp .ne 22, 65, 0, 0, []), (46, .iload_n 3, 0, 0, 0, []), (47, .ifCond .lt 16, 63, 0, 0, []), (50, .iload 4, 0, 0, 0, []), (52, .iload_n 3, 0, 0, 0, []), (53, .if_icmp .le 10, 63, 0, 0, []), (56, .iload 4, 0, 0, 0, []), (58, .iload 5, 0, 0, 0, []), (60, .if_icmp .le 5, 65, 0, 0, []), (63, .iconst (-1), 0, 0, 0, [])],
  [(64, .ireturn, 0, 0, 0, []), (65, .iload_n 1, 0, 0, 0, []), (66, .iconst 3, 0, 0, 0, []), (67, .if_icmp .ne 15, 82, 0, 0, []), (70, .iload_n 3, 0, 0, 0, []), (71, .ifCond .lt 9, 80, 0, 0, []), (74, .iload_n 3, 0, 0, 0, []), (75, .bipush 7, 0, 0, 0, []), (77, .if_icmp .le 5, 82, 0, 0, []), (80, .iconst (-1), 0, 0, 0, []), (81, .ireturn, 0, 0, 0, []), (82, .aload_n 0, 0, 0, 0, []), (83, .getfield 46, 11, 7, 0, [3012]), (86, .iload_n 1, 0, 0, 0, []), (87, .iload_n 3, 0, 0, 0, []), (88, .iload 4, 0, 0, 0, []), (90, .iconst (-1), 0, 0, 0, []), (91, .iload_n 2, 0, 0, 0, []), (92, .iconst (-1), 0, 0, 0, []), (93, .if_icmp .ne 7, 100, 0, 0, [])],
  [(96, .iconst 0, 0, 0, 0, []), (97, .goto 4, 101, 0, 0, []), (100, .iload_n 2, 0, 0, 0, []), (101, .invokevirtual 132, 4, 5, 0, [4166, 4168, 63, 1004, 4169]), (104, .ireturn, 0, 0, 0, [])]]
def gP166 : List (List gE) := [
  [(0, .aload_n 0, 0, 0, 0, []), (1, .getfield 46, 11, 7, 0, [3012]), (4, .iload_n 1, 0, 0, 0, []), (5, .invokevirtual 136, 2, 1, 0, [5012, 5014, 65, 1004, 5015]), (8, .ifnull 19, 27, 0, 0, []), (11, .iload_n 2, 0, 0, 0, []), (12, .ifCond .lt 15, 27, 0, 0, []), (15, .iload_n 3, 0, 0, 0, []), (16, .iload_n 2, 0, 0, 0, []), (17, .if_icmp .le 10, 27, 0, 0, []), (20, .iload_n 3, 0, 0, 0, []), (21, .sipush 240, 0, 0, 0, []), (24, .if_icmp .le 5, 29, 0, 0, []), (27, .iconst (-1), 0, 0, 0, []), (28, .ireturn, 0, 0, 0, []), (29, .aload_n 0, 0, 0, 0, []), (30, .getfield 46, 11, 7, 0, [3012])],
  [(33, .iconst 4, 0, 0, 0, []), (34, .iload_n 2, 0, 0, 0, []), (35, .iload_n 3, 0, 0, 0, []), (36, .iload_n 1, 0, 0, 0, []), (37, .iconst 0, 0, 0, 0, []), (38, .invokevirtual 132, 4, 5, 0, [4166, 4168, 63, 1004, 4169]), (41, .ireturn, 0, 0, 0, [])]]
def gP167 : List (List gE) := [
  [(0, .aload_n 0, 0, 0, 0, []), (1, .getfield 46, 11, 7, 0, [3012]), (4, .iload_n 1, 0, 0, 0, []), (5, .iconst 2, 0, 0, 0, []), (6, .invokevirtual 140, 3, 2, 0, [5020, 5022, 66, 1004, 5023]), (9, .ifnonnull 7, 16, 0, 0, []), (12, .iconst (-1), 0, 0, 0, []), (13, .goto 15, 28, 0, 0, []), (16, .aload_n 0, 0, 0, 0, []), (17, .getfield 46, 11, 7, 0, [3012]), (20, .iconst 5, 0, 0, 0, []), (21, .iconst 0, 0, 0, 0, []), (22, .iconst 0, 0, 0, 0, []), (23, .iload_n 1, 0, 0, 0, []), (24, .iconst 0, 0, 0, 0, []), (25, .invokevirtual 132, 4, 5, 0, [4166, 4168, 63, 1004, 4169]), (28, .ireturn, 0, 0, 0, [])]]
def gP168 : List (List gE) := [
  [(0, .aload_n 0, 0, 0, 0, []), (1, .getfield 46, 11, 7, 0, [3012]), (4, .bipush 6, 0, 0, 0, []), (6, .iconst 0, 0, 0, 0, []), (7, .iconst 0, 0, 0, 0, []), (8, .iconst (-1), 0, 0, 0, []), (9, .iconst 0, 0, 0, 0, []), (10, .invokevirtual 132, 4, 5, 0, [4166, 4168, 63, 1004, 4169]), (13, .ireturn, 0, 0, 0, [])]]
def gP169 : List (List gE) := [
  [(0, .aload_n 0, 0, 0, 0, []), (1, .getfield 46, 11, 7, 0, [3012]), (4, .iload_n 1, 0, 0, 0, []), (5, .invokevirtual 136, 2, 1, 0, [5012, 5014, 65, 1004, 5015]), (8, .astore 6, 0, 0, 0, []), (10, .aload 6, 0, 0, 0, []), (12, .ifnull 17, 29, 0, 0, []), (15, .aload 6, 0, 0, 0, []), (17, .iload_n 2, 0, 0, 0, []), (18, .iload_n 3, 0, 0, 0, []), (19, .iload 4, 0, 0, 0, []), (21, .iload 5, 0, 0, 0, []), (23, .invokevirtual 144, 118, 4, 7, [5033, 5035, 67, 1018, 5036]), (26, .ifCond .ne 5, 31, 0, 0, []), (29, .iconst 0, 0, 0, 0, []), (30, .ireturn, 0, 0, 0, []), (31, .iload_n 2, 0, 0, 0, [])],
  [(32, .istore 7, 0, 0, 0, []), (34, .iload 7, 0, 0, 0, []), (36, .iload_n 3, 0, 0, 0, []), (37, .if_icmp .ge 37, 74, 0, 0, []), (40, .iload 7, 0, 0, 0, []), (42, .sipush 240, 0, 0, 0, []), (45, .if_icmp .ge 29, 74, 0, 0, []), (48, .aload 6, 0, 0, 0, []), (50, .getfield 148, 7, 4, 1, [4194]), (53, .iload 7, 0, 0, 0, []), (55, .iload 4, 0, 0, 0, []), (57, .iload 5, 0, 0, 0, []), (59, .iload 7, 0, 0, 0, []), (61, .iload_n 2, 0, 0, 0, []), (62, .isub, 0, 0, 0, []), (63, .imul, 0, 0, 0, [])],
  [(64, .iadd, 0, 0, 0, []), (65, .invokestatic 151, 201, 3, 0, [3050, 1084, 1001, 1085]), (68, .iinc 7 1, 0, 0, 0, []), (71, .goto (-37), 34, 0, 0, []), (74, .aload 6, 0, 0, 0, []), (76, .aload_n 0, 0, 0, 0, []), (77, .getfield 46, 11, 7, 0, [3012]), (80, .invokevirtual 155, 5, 0, 0, [5042, 5006, 64, 1004, 5007]), (83, .putfield 158, 7, 8, 1, [4206]), (86, .iconst 1, 0, 0, 0, []), (87, .ireturn, 0, 0, 0, [])]]
def gP170 : List (List gE) := [
  [(0, .aload_n 0, 0, 0, 0, []), (1, .getfield 46, 11, 7, 0, [3012]), (4, .iload_n 1, 0, 0, 0, []), (5, .invokevirtual 136, 2, 1, 0, [5012, 5014, 65, 1004, 5015]), (8, .astore 4, 0, 0, 0, []), (10, .aload 4, 0, 0, 0, []), (12, .ifnull 33, 45, 0, 0, []), (15, .aload 4, 0, 0, 0, []), (17, .getfield 161, 7, 0, 1, [4179]), (20, .iconst 3, 0, 0, 0, []), (21, .if_icmp .gt 24, 45, 0, 0, []), (24, .iload_n 2, 0, 0, 0, []), (25, .ifCond .lt 20, 45, 0, 0, []), (28, .iload_n 2, 0, 0, 0, []), (29, .aload 4, 0, 0, 0, []), (31, .getfield 164, 7, 6, 1, [4200])],
  [(34, .if_icmp .ge 11, 45, 0, 0, []), (37, .iload_n 3, 0, 0, 0, []), (38, .i2l, 0, 0, 0, []), (39, .invokestatic 167, 198, 1, 0, [5047, 5038, 1001, 5039]), (42, .ifCond .ne 5, 47, 0, 0, []), (45, .iconst 0, 0, 0, 0, []), (46, .ireturn, 0, 0, 0, []), (47, .aload 4, 0, 0, 0, []), (49, .getfield 148, 7, 4, 1, [4194]), (52, .iload_n 2, 0, 0, 0, []), (53, .iload_n 3, 0, 0, 0, []), (54, .invokestatic 151, 201, 3, 0, [3050, 1084, 1001, 1085]), (57, .aload 4, 0, 0, 0, []), (59, .aload_n 0, 0, 0, 0, []), (60, .getfield 46, 11, 7, 0, [3012]), (63, .invokevirtual 155, 5, 0, 0, [5042, 5006, 64, 1004, 5007])],
  [(66, .putfield 158, 7, 8, 1, [4206]), (69, .iconst 1, 0, 0, 0, []), (70, .ireturn, 0, 0, 0, [])]]
def gP171 : List (List gE) := [
  [(0, .aload_n 0, 0, 0, 0, []), (1, .getfield 46, 11, 7, 0, [3012]), (4, .iload_n 1, 0, 0, 0, []), (5, .iconst 2, 0, 0, 0, []), (6, .invokevirtual 140, 3, 2, 0, [5020, 5022, 66, 1004, 5023]), (9, .astore_n 3, 0, 0, 0, []), (10, .aload_n 3, 0, 0, 0, []), (11, .ifnull 22, 33, 0, 0, []), (14, .aload_n 3, 0, 0, 0, []), (15, .getfield 171, 7, 7, 1, [4203]), (18, .bipush 8, 0, 0, 0, []), (20, .if_icmp .ge 13, 33, 0, 0, []), (23, .iload_n 2, 0, 0, 0, []), (24, .ifCond .lt 9, 33, 0, 0, []), (27, .iload_n 2, 0, 0, 0, []), (28, .bipush 60, 0, 0, 0, []), (30, .if_icmp .lt 5, 35, 0, 0, [])],
  [(33, .iconst (-1), 0, 0, 0, []), (34, .ireturn, 0, 0, 0, []), (35, .aload_n 3, 0, 0, 0, []), (36, .getfield 174, 7, 5, 1, [4197]), (39, .aload_n 3, 0, 0, 0, []), (40, .getfield 171, 7, 7, 1, [4203]), (43, .iload_n 2, 0, 0, 0, []), (44, .invokestatic 151, 201, 3, 0, [3050, 1084, 1001, 1085]), (47, .aload_n 3, 0, 0, 0, []), (48, .dup, 0, 0, 0, []), (49, .getfield 171, 7, 7, 1, [4203]), (52, .iconst 1, 0, 0, 0, []), (53, .iadd, 0, 0, 0, []), (54, .putfield 171, 7, 7, 1, [4203]), (57, .aload_n 3, 0, 0, 0, []), (58, .getfield 171, 7, 7, 1, [4203]), (61, .ireturn, 0, 0, 0, [])]]
def gP172 : List (List gE) := [
  [(0, .iload_n 1, 0, 0, 0, []), (1, .ifCond .lt 19, 20, 0, 0, []), (4, .iload_n 1, 0, 0, 0, []), (5, .bipush 8, 0, 0, 0, []), (7, .if_icmp .ge 13, 20, 0, 0, []), (10, .iload_n 2, 0, 0, 0, []), (11, .ifCond .lt 9, 20, 0, 0, []), (14, .iload_n 2, 0, 0, 0, []), (15, .bipush 60, 0, 0, 0, []), (17, .if_icmp .le 5, 22, 0, 0, []), (20, .iconst 0, 0, 0, 0, []), (21, .ireturn, 0, 0, 0, []), (22, .aload_n 0, 0, 0, 0, []), (23, .getfield 46, 11, 7, 0, [3012]), (26, .iload_n 1, 0, 0, 0, []), (27, .iload_n 2, 0, 0, 0, []), (28, .invokevirtual 177, 6, 2, 0, [5056, 5058, 68, 1004, 5059]), (31, .iconst 1, 0, 0, 0, [])],
  [(32, .ireturn, 0, 0, 0, [])]]
def gP173 : List (List gE) := [
  [(0, .iload_n 1, 0, 0, 0, []), (1, .ifCond .lt 20, 21, 0, 0, []), (4, .iload_n 1, 0, 0, 0, []), (5, .bipush 8, 0, 0, 0, []), (7, .if_icmp .ge 14, 21, 0, 0, []), (10, .iload_n 2, 0, 0, 0, []), (11, .ifCond .lt 10, 21, 0, 0, []), (14, .iload_n 2, 0, 0, 0, []), (15, .sipush 999, 0, 0, 0, []), (18, .if_icmp .le 5, 23, 0, 0, []), (21, .iconst 0, 0, 0, 0, []), (22, .ireturn, 0, 0, 0, []), (23, .aload_n 0, 0, 0, 0, []), (24, .getfield 46, 11, 7, 0, [3012]), (27, .iload_n 1, 0, 0, 0, []), (28, .iload_n 2, 0, 0, 0, []), (29, .invokevirtual 181, 7, 2, 0, [5065, 5067, 69, 1004, 5068])],
  [(32, .iconst 1, 0, 0, 0, []), (33, .ireturn, 0, 0, 0, [])]]
def gP174 : List (List gE) := [
  [(0, .aload_n 0, 0, 0, 0, []), (1, .getfield 46, 11, 7, 0, [3012]), (4, .iload_n 1, 0, 0, 0, []), (5, .bipush 6, 0, 0, 0, []), (7, .invokevirtual 140, 3, 2, 0, [5020, 5022, 66, 1004, 5023]), (10, .astore 4, 0, 0, 0, []), (12, .aload_n 0, 0, 0, 0, []), (13, .iload_n 2, 0, 0, 0, []), (14, .invokevirtual 184, 194, 1, 11, [5073, 5075, 70, 1001, 5076]), (17, .astore 5, 0, 0, 0, []), (19, .aload 4, 0, 0, 0, []), (21, .ifnull 13, 34, 0, 0, []), (24, .aload_n 0, 0, 0, 0, []), (25, .aload 5, 0, 0, 0, []), (27, .iload_n 3, 0, 0, 0, []), (28, .invokevirtual 188, 196, 2, 11, [5077, 5079, 71, 1001, 5080]), (31, .ifCond .ne 5, 36, 0, 0, [])],
  [(34, .iconst (-1), 0, 0, 0, []), (35, .ireturn, 0, 0, 0, []), (36, .aload_n 0, 0, 0, 0, []), (37, .getfield 46, 11, 7, 0, [3012]), (40, .aload 5, 0, 0, 0, []), (42, .iload_n 1, 0, 0, 0, []), (43, .invokevirtual 192, 14, 2, 0, [5081, 5083, 72, 1004, 5084]), (46, .ifCond .ne 6, 52, 0, 0, []), (49, .bipush (-2), 0, 0, 0, []), (51, .ireturn, 0, 0, 0, []), (52, .aload 4, 0, 0, 0, []), (54, .aload 5, 0, 0, 0, []), (56, .putfield 195, 7, 10, 1, [4212]), (59, .aload 4, 0, 0, 0, []), (61, .iload_n 2, 0, 0, 0, []), (62, .putfield 199, 7, 11, 1, [4214])],
  [(65, .aload 4, 0, 0, 0, []), (67, .iload_n 3, 0, 0, 0, []), (68, .putfield 202, 7, 12, 1, [4216]), (71, .aload_n 0, 0, 0, 0, []), (72, .aload 4, 0, 0, 0, []), (74, .invokevirtual 205, 197, 1, 11, [5103, 5105, 75, 1001, 5106]), (77, .aload 4, 0, 0, 0, []), (79, .getfield 158, 7, 8, 1, [4206]), (82, .ireturn, 0, 0, 0, [])]]
def gP175 : List (List gE) := [
  [(0, .aload_n 0, 0, 0, 0, []), (1, .getfield 46, 11, 7, 0, [3012]), (4, .invokevirtual 209, 17, 0, 0, [5219, 5221, 95, 1004, 5222]), (7, .istore_n 1, 0, 0, 0, []), (8, .iconst 0, 0, 0, 0, []), (9, .istore_n 2, 0, 0, 0, []), (10, .iconst 0, 0, 0, 0, []), (11, .istore_n 3, 0, 0, 0, []), (12, .iload_n 3, 0, 0, 0, []), (13, .bipush 20, 0, 0, 0, []), (15, .if_icmp .ge 59, 74, 0, 0, []), (18, .iload_n 1, 0, 0, 0, []), (19, .ifCond .eq 55, 74, 0, 0, []), (22, .aload_n 0, 0, 0, 0, []), (23, .getfield 46, 11, 7, 0, [3012]), (26, .iload_n 1, 0, 0, 0, []), (27, .invokevirtual 212, 18, 1, 0, [5231, 5233, 98, 1004, 5234]), (30, .istore 4, 0, 0, 0, [])],
  [(32, .aload_n 0, 0, 0, 0, []), (33, .getfield 46, 11, 7, 0, [3012]), (36, .iload 4, 0, 0, 0, []), (38, .invokevirtual 136, 2, 1, 0, [5012, 5014, 65, 1004, 5015]), (41, .astore 5, 0, 0, 0, []), (43, .aload 5, 0, 0, 0, []), (45, .ifnonnull 5, 50, 0, 0, []), (48, .iload_n 2, 0, 0, 0, []), (49, .ireturn, 0, 0, 0, []), (50, .aload_n 0, 0, 0, 0, []), (51, .aload 5, 0, 0, 0, []), (53, .invokevirtual 205, 197, 1, 11, [5103, 5105, 75, 1001, 5106]), (56, .iload_n 1, 0, 0, 0, []), (57, .iconst 1, 0, 0, 0, []), (58, .iload 4, 0, 0, 0, []), (60, .ishl, 0, 0, 0, []), (61, .iconst (-1), 0, 0, 0, []), (62, .ixor, 0, 0, 0, []), (63, .iand, 0, 0, 0, [])],
  [(64, .istore_n 1, 0, 0, 0, []), (65, .iinc 2 1, 0, 0, 0, []), (68, .iinc 3 1, 0, 0, 0, []), (71, .goto (-59), 12, 0, 0, []), (74, .iload_n 2, 0, 0, 0, []), (75, .ireturn, 0, 0, 0, [])]]
def gP176 : List (List gE) := [
  [(0, .aload_n 0, 0, 0, 0, []), (1, .getfield 46, 11, 7, 0, [3012]), (4, .iload_n 1, 0, 0, 0, []), (5, .invokevirtual 136, 2, 1, 0, [5012, 5014, 65, 1004, 5015]), (8, .ifnonnull 5, 13, 0, 0, []), (11, .iconst (-1), 0, 0, 0, []), (12, .ireturn, 0, 0, 0, []), (13, .aload_n 0, 0, 0, 0, []), (14, .getfield 78, 11, 11, 0, [3016]), (17, .aload_n 0, 0, 0, 0, []), (18, .getfield 46, 11, 7, 0, [3012]), (21, .iload_n 1, 0, 0, 0, []), (22, .invokevirtual 215, 152, 2, 10, [5239, 5133, 81, 1013, 5134]), (25, .aload_n 0, 0, 0, 0, []), (26, .getfield 78, 11, 11, 0, [3016]), (29, .getfield 219, 10, 2, 1, [2176])],
  [(32, .ireturn, 0, 0, 0, [])]]
def gP177 : List (List gE) := [
  [(0, .aload_n 0, 0, 0, 0, []), (1, .getfield 78, 11, 11, 0, [3016]), (4, .aload_n 0, 0, 0, 0, []), (5, .getfield 46, 11, 7, 0, [3012]), (8, .iload_n 1, 0, 0, 0, []), (9, .invokevirtual 215, 152, 2, 10, [5239, 5133, 81, 1013, 5134]), (12, .aload_n 0, 0, 0, 0, []), (13, .getfield 78, 11, 11, 0, [3016]), (16, .iload_n 2, 0, 0, 0, []), (17, .invokevirtual 220, 153, 1, 10, [6004, 5156, 84, 1013, 5157]), (20, .ireturn, 0, 0, 0, [])]]
def gP178 : List (List gE) := [
  [(0, .aload_n 0, 0, 0, 0, []), (1, .getfield 46, 11, 7, 0, [3012]), (4, .iload_n 1, 0, 0, 0, []), (5, .invokevirtual 136, 2, 1, 0, [5012, 5014, 65, 1004, 5015]), (8, .astore_n 3, 0, 0, 0, []), (9, .aload_n 3, 0, 0, 0, []), (10, .ifnonnull 5, 15, 0, 0, []), (13, .iconst (-1), 0, 0, 0, []), (14, .ireturn, 0, 0, 0, []), (15, .iload_n 2, 0, 0, 0, []), (16, .tableswitch 90 0 6 #[44, 49, 54, 63, 68, 80, 85], 0, 0, 0, [])],
  [(60, .aload_n 3, 0, 0, 0, []), (61, .getfield 161, 7, 0, 1, [4179])],
  [(64, .ireturn, 0, 0, 0, []), (65, .aload_n 3, 0, 0, 0, []), (66, .getfield 223, 7, 9, 1, [4209]), (69, .ireturn, 0, 0, 0, []), (70, .aload_n 0, 0, 0, 0, []), (71, .getfield 46, 11, 7, 0, [3012]), (74, .iload_n 1, 0, 0, 0, []), (75, .invokevirtual 226, 20, 1, 0, [6009, 6011, 99, 1004, 6012]), (78, .ireturn, 0, 0, 0, []), (79, .aload_n 3, 0, 0, 0, []), (80, .getfield 158, 7, 8, 1, [4206]), (83, .ireturn, 0, 0, 0, []), (84, .aload_n 0, 0, 0, 0, []), (85, .getfield 46, 11, 7, 0, [3012]), (88, .invokevirtual 209, 17, 0, 0, [5219, 5221, 95, 1004, 5222]), (91, .iload_n 1, 0, 0, 0, []), (92, .iushr, 0, 0, 0, []), (93, .iconst 1, 0, 0, 0, []), (94, .iand, 0, 0, 0, []), (95, .ireturn, 0, 0, 0, [])],
  [(96, .aload_n 3, 0, 0, 0, []), (97, .getfield 199, 7, 11, 1, [4214]), (100, .ireturn, 0, 0, 0, []), (101, .aload_n 3, 0, 0, 0, []), (102, .getfield 202, 7, 12, 1, [4216]), (105, .ireturn, 0, 0, 0, []), (106, .iconst (-1), 0, 0, 0, []), (107, .ireturn, 0, 0, 0, [])]]
def gP179 : List (List gE) := [
  [(0, .aload_n 0, 0, 0, 0, []), (1, .getfield 46, 11, 7, 0, [3012]), (4, .iload_n 1, 0, 0, 0, []), (5, .invokevirtual 136, 2, 1, 0, [5012, 5014, 65, 1004, 5015]), (8, .ifnonnull 7, 15, 0, 0, []), (11, .iconst (-1), 0, 0, 0, []), (12, .goto 11, 23, 0, 0, []), (15, .aload_n 0, 0, 0, 0, []), (16, .getfield 46, 11, 7, 0, [3012]), (19, .iload_n 1, 0, 0, 0, []), (20, .invokevirtual 229, 13, 1, 0, [6022, 6024, 101, 1004, 6025]), (23, .ireturn, 0, 0, 0, [])]]
def gP180 : List (List gE) := [
  [(0, .aload_n 0, 0, 0, 0, []), (1, .iload_n 1, 0, 0, 0, []), (2, .invokevirtual 184, 194, 1, 11, [5073, 5075, 70, 1001, 5076]), (5, .astore_n 2, 0, 0, 0, []), (6, .aload_n 2, 0, 0, 0, []), (7, .ifnonnull 7, 14, 0, 0, []), (10, .iconst (-1), 0, 0, 0, []), (11, .goto 7, 18, 0, 0, []), (14, .aload_n 2, 0, 0, 0, []), (15, .getfield 232, 6, 2, 1, [4060]), (18, .ireturn, 0, 0, 0, [])]]
def gP181 : List (List gE) := [
  [(0, .aload_n 0, 0, 0, 0, []), (1, .iload_n 1, 0, 0, 0, []), (2, .invokevirtual 184, 194, 1, 11, [5073, 5075, 70, 1001, 5076]), (5, .iload_n 2, 0, 0, 0, []), (6, .invokestatic 235, 195, 2, 0, [6034, 6035, 1001, 6036]), (9, .astore 4, 0, 0, 0, []), (11, .aload 4, 0, 0, 0, []), (13, .ifnonnull 5, 18, 0, 0, []), (16, .iconst (-1), 0, 0, 0, []), (17, .ireturn, 0, 0, 0, []), (18, .iload_n 3, 0, 0, 0, []), (19, .tableswitch 102 0 3 #[29, 35, 65, 96], 0, 0, 0, [])],
  [(48, .aload 4, 0, 0, 0, []), (50, .getfield 239, 1, 0, 1, [2003]), (53, .ireturn, 0, 0, 0, []), (54, .aload 4, 0, 0, 0, []), (56, .invokevirtual 242, 23, 0, 1, [6038, 4101, 55, 1011, 4102]), (59, .ifCond .eq 23, 82, 0, 0, []), (62, .aload_n 0, 0, 0, 0, []), (63, .getfield 46, 11, 7, 0, [3012])],
  [(66, .aload 4, 0, 0, 0, []), (68, .getfield 246, 1, 4, 1, [2022]), (71, .aload 4, 0, 0, 0, []), (73, .getfield 249, 1, 5, 1, [2027]), (76, .invokevirtual 252, 8, 2, 0, [6039, 5147, 83, 1004, 5148]), (79, .goto 4, 83, 0, 0, []), (82, .iconst (-1), 0, 0, 0, []), (83, .ireturn, 0, 0, 0, []), (84, .aload 4, 0, 0, 0, []), (86, .getfield 239, 1, 0, 1, [2003]), (89, .ifCond .eq 12, 101, 0, 0, []), (92, .aload 4, 0, 0, 0, []), (94, .getfield 239, 1, 0, 1, [2003])],
  [(97, .iconst 4, 0, 0, 0, []), (98, .if_icmp .ne 11, 109, 0, 0, []), (101, .aload 4, 0, 0, 0, []), (103, .getfield 255, 1, 2, 1, [2011]), (106, .goto 8, 114, 0, 0, []), (109, .aload 4, 0, 0, 0, []), (111, .getfield 258, 1, 3, 1, [2016]), (114, .ireturn, 0, 0, 0, []), (115, .aload 4, 0, 0, 0, []), (117, .getfield 261, 1, 1, 1, [2005]), (120, .ireturn, 0, 0, 0, []), (121, .iconst (-1), 0, 0, 0, []), (122, .ireturn, 0, 0, 0, [])]]
def gP182 : List (List gE) := [
  [(0, .aload_n 0, 0, 0, 0, []), (1, .iload_n 1, 0, 0, 0, []), (2, .invokevirtual 184, 194, 1, 11, [5073, 5075, 70, 1001, 5076]), (5, .astore 4, 0, 0, 0, []), (7, .aload 4, 0, 0, 0, []), (9, .iload_n 2, 0, 0, 0, []), (10, .invokestatic 235, 195, 2, 0, [6034, 6035, 1001, 6036]), (13, .astore 5, 0, 0, 0, []), (15, .aload 5, 0, 0, 0, []), (17, .ifnull 21, 38, 0, 0, []), (20, .aload 5, 0, 0, 0, []), (22, .getfield 239, 1, 0, 1, [2003]), (25, .ifCond .ne 13, 38, 0, 0, []), (28, .aload_n 0, 0, 0, 0, []), (29, .aload 4, 0, 0, 0, []), (31, .iload_n 3, 0, 0, 0, [])],
  [(32, .invokevirtual 188, 196, 2, 11, [5077, 5079, 71, 1001, 5080]), (35, .ifCond .ne 5, 40, 0, 0, []), (38, .iconst (-1), 0, 0, 0, []), (39, .ireturn, 0, 0, 0, []), (40, .aload_n 0, 0, 0, 0, []), (41, .getfield 71, 11, 10, 0, [3015]), (44, .aload 4, 0, 0, 0, []), (46, .getfield 264, 6, 0, 1, [4055]), (49, .aload 5, 0, 0, 0, []), (51, .iload_n 3, 0, 0, 0, []), (52, .invokevirtual 265, 137, 3, 9, [6044, 6046, 102, 1014, 6047]), (55, .ireturn, 0, 0, 0, [])]]
def gP183 : List (List gE) := [
  [(0, .aload_n 0, 0, 0, 0, []), (1, .iload_n 1, 0, 0, 0, []), (2, .invokevirtual 184, 194, 1, 11, [5073, 5075, 70, 1001, 5076]), (5, .astore 4, 0, 0, 0, []), (7, .aload 4, 0, 0, 0, []), (9, .iload_n 2, 0, 0, 0, []), (10, .invokestatic 235, 195, 2, 0, [6034, 6035, 1001, 6036]), (13, .astore 5, 0, 0, 0, []), (15, .aload 5, 0, 0, 0, []), (17, .ifnull 21, 38, 0, 0, []), (20, .aload 5, 0, 0, 0, []), (22, .getfield 239, 1, 0, 1, [2003]), (25, .ifCond .ne 13, 38, 0, 0, []), (28, .aload_n 0, 0, 0, 0, []), (29, .aload 4, 0, 0, 0, []), (31, .iload_n 3, 0, 0, 0, [])],
  [(32, .invokevirtual 188, 196, 2, 11, [5077, 5079, 71, 1001, 5080]), (35, .ifCond .ne 5, 40, 0, 0, []), (38, .iconst (-1), 0, 0, 0, []), (39, .ireturn, 0, 0, 0, []), (40, .aload_n 0, 0, 0, 0, []), (41, .getfield 71, 11, 10, 0, [3015]), (44, .aload 4, 0, 0, 0, []), (46, .getfield 264, 6, 0, 1, [4055]), (49, .aload 5, 0, 0, 0, []), (51, .iload_n 3, 0, 0, 0, []), (52, .invokevirtual 269, 136, 3, 9, [6078, 6080, 108, 1014, 6081]), (55, .ireturn, 0, 0, 0, [])]]
def gP184 : List (List gE) := [
  [(0, .aload_n 0, 0, 0, 0, []), (1, .iload_n 1, 0, 0, 0, []), (2, .invokevirtual 184, 194, 1, 11, [5073, 5075, 70, 1001, 5076]), (5, .astore_n 3, 0, 0, 0, []), (6, .aload_n 3, 0, 0, 0, []), (7, .ifnull 7, 14, 0, 0, []), (10, .iload_n 2, 0, 0, 0, []), (11, .ifCond .ge 7, 18, 0, 0, []), (14, .iconst (-1), 0, 0, 0, []), (15, .goto 12, 27, 0, 0, []), (18, .aload_n 0, 0, 0, 0, []), (19, .getfield 71, 11, 10, 0, [3015]), (22, .aload_n 3, 0, 0, 0, []), (23, .iload_n 2, 0, 0, 0, []), (24, .invokevirtual 272, 145, 2, 9, [6086, 6088, 109, 1014, 6089]), (27, .ireturn, 0, 0, 0, [])]]
def gP185 : List (List gE) := [
  [(0, .aload_n 0, 0, 0, 0, []), (1, .getfield 46, 11, 7, 0, [3012]), (4, .iload_n 1, 0, 0, 0, []), (5, .invokevirtual 136, 2, 1, 0, [5012, 5014, 65, 1004, 5015]), (8, .ifnull 14, 22, 0, 0, []), (11, .iload_n 2, 0, 0, 0, []), (12, .iconst 1, 0, 0, 0, []), (13, .if_icmp .lt 9, 22, 0, 0, []), (16, .iload_n 2, 0, 0, 0, []), (17, .bipush 60, 0, 0, 0, []), (19, .if_icmp .le 5, 24, 0, 0, []), (22, .iconst (-1), 0, 0, 0, []), (23, .ireturn, 0, 0, 0, []), (24, .aload_n 0, 0, 0, 0, []), (25, .getfield 62, 11, 9, 0, [3014]), (28, .iload_n 1, 0, 0, 0, []), (29, .iload_n 2, 0, 0, 0, []), (30, .invokevirtual 276, 33, 2, 2, [6100, 6102, 111, 1012, 6103])],
  [(33, .ireturn, 0, 0, 0, [])]]
def gP186 : List (List gE) := [
  [(0, .aload_n 0, 0, 0, 0, []), (1, .iload_n 1, 0, 0, 0, []), (2, .invokevirtual 184, 194, 1, 11, [5073, 5075, 70, 1001, 5076]), (5, .astore_n 2, 0, 0, 0, []), (6, .aload_n 0, 0, 0, 0, []), (7, .getfield 32, 11, 5, 0, [3010]), (10, .invokevirtual 279, 103, 0, 5, [6116, 6118, 113, 1002, 6119]), (13, .istore_n 3, 0, 0, 0, []), (14, .aload_n 2, 0, 0, 0, []), (15, .ifnull 8, 23, 0, 0, []), (18, .iload_n 3, 0, 0, 0, []), (19, .iconst (-1), 0, 0, 0, []), (20, .if_icmp .ne 5, 25, 0, 0, []), (23, .iconst (-1), 0, 0, 0, []), (24, .ireturn, 0, 0, 0, []), (25, .aload_n 0, 0, 0, 0, []), (26, .getfield 62, 11, 9, 0, [3014]), (29, .aload_n 2, 0, 0, 0, []), (30, .aload_n 0, 0, 0, 0, []), (31, .getfield 32, 11, 5, 0, [3010])],
  [(34, .iload_n 3, 0, 0, 0, []), (35, .invokevirtual 282, 105, 1, 5, [6121, 6123, 114, 1002, 6124]), (38, .bipush 100, 0, 0, 0, []), (40, .aload_n 0, 0, 0, 0, []), (41, .getfield 32, 11, 5, 0, [3010]), (44, .iload_n 3, 0, 0, 0, []), (45, .invokevirtual 285, 104, 1, 5, [6125, 6127, 115, 1002, 6128]), (48, .imul, 0, 0, 0, []), (49, .invokevirtual 288, 29, 3, 2, [6129, 6131, 116, 1012, 6132]), (52, .ireturn, 0, 0, 0, [])]]
def gP187 : List (List gE) := [
  [(0, .aload_n 0, 0, 0, 0, []), (1, .getfield 46, 11, 7, 0, [3012]), (4, .iload_n 1, 0, 0, 0, []), (5, .iconst 1, 0, 0, 0, []), (6, .invokevirtual 140, 3, 2, 0, [5020, 5022, 66, 1004, 5023]), (9, .astore_n 2, 0, 0, 0, []), (10, .aload_n 2, 0, 0, 0, []), (11, .ifnull 10, 21, 0, 0, []), (14, .aload_n 2, 0, 0, 0, []), (15, .getfield 164, 7, 6, 1, [4200]), (18, .ifCond .ne 5, 23, 0, 0, []), (21, .iconst (-1), 0, 0, 0, []), (22, .ireturn, 0, 0, 0, []), (23, .aload_n 2, 0, 0, 0, []), (24, .getfield 148, 7, 4, 1, [4194]), (27, .aload_n 2, 0, 0, 0, []), (28, .getfield 292, 7, 2, 1, [4187]), (31, .iconst 1, 0, 0, 0, [])],
  [(32, .isub, 0, 0, 0, []), (33, .invokestatic 295, 199, 2, 0, [6153, 3072, 1001, 3073]), (36, .aload_n 2, 0, 0, 0, []), (37, .getfield 148, 7, 4, 1, [4194]), (40, .aload_n 2, 0, 0, 0, []), (41, .getfield 298, 7, 1, 1, [4183]), (44, .invokestatic 295, 199, 2, 0, [6153, 3072, 1001, 3073]), (47, .isub, 0, 0, 0, []), (48, .invokestatic 301, 316, 1, 0, [6154, 6110, 1016, 6111]), (51, .ireturn, 0, 0, 0, [])]]
def gP188 : List (List gE) := [
  [(0, .aload_n 0, 0, 0, 0, []), (1, .getfield 46, 11, 7, 0, [3012]), (4, .iload_n 1, 0, 0, 0, []), (5, .iconst 2, 0, 0, 0, []), (6, .invokevirtual 140, 3, 2, 0, [5020, 5022, 66, 1004, 5023]), (9, .astore 5, 0, 0, 0, []), (11, .aload_n 0, 0, 0, 0, []), (12, .getfield 46, 11, 7, 0, [3012]), (15, .iload_n 2, 0, 0, 0, []), (16, .iconst 2, 0, 0, 0, []), (17, .invokevirtual 140, 3, 2, 0, [5020, 5022, 66, 1004, 5023]), (20, .astore 6, 0, 0, 0, []), (22, .aload 5, 0, 0, 0, []), (24, .ifnull 23, 47, 0, 0, []), (27, .aload 6, 0, 0, 0, []), (29, .ifnull 18, 47, 0, 0, [])],
  [(32, .iload_n 1, 0, 0, 0, []), (33, .iload_n 2, 0, 0, 0, []), (34, .if_icmp .eq 13, 47, 0, 0, []), (37, .iload_n 3, 0, 0, 0, []), (38, .ifCond .lt 9, 47, 0, 0, []), (41, .iload_n 3, 0, 0, 0, []), (42, .bipush 9, 0, 0, 0, []), (44, .if_icmp .le 16, 60, 0, 0, []), (47, .iload 4, 0, 0, 0, []), (49, .iconst 1, 0, 0, 0, []), (50, .if_icmp .ne 8, 58, 0, 0, []), (53, .bipush (-100), 0, 0, 0, []), (55, .goto 4, 59, 0, 0, []), (58, .iconst (-1), 0, 0, 0, []), (59, .ireturn, 0, 0, 0, []), (60, .aload_n 0, 0, 0, 0, []), (61, .getfield 71, 11, 10, 0, [3015])],
  [(64, .aload 5, 0, 0, 0, []), (66, .aload 6, 0, 0, 0, []), (68, .iload_n 3, 0, 0, 0, []), (69, .iload 4, 0, 0, 0, []), (71, .invokevirtual 306, 147, 4, 9, [6159, 6161, 118, 1014, 6162]), (74, .ireturn, 0, 0, 0, [])]]
def gP189 : List (List gE) := [
  [(0, .aload_n 0, 0, 0, 0, []), (1, .iload_n 1, 0, 0, 0, []), (2, .invokevirtual 184, 194, 1, 11, [5073, 5075, 70, 1001, 5076]), (5, .astore 4, 0, 0, 0, []), (7, .aload_n 0, 0, 0, 0, []), (8, .getfield 46, 11, 7, 0, [3012]), (11, .iload_n 2, 0, 0, 0, []), (12, .iconst 3, 0, 0, 0, []), (13, .invokevirtual 140, 3, 2, 0, [5020, 5022, 66, 1004, 5023]), (16, .ifnull 13, 29, 0, 0, []), (19, .aload_n 0, 0, 0, 0, []), (20, .aload 4, 0, 0, 0, []), (22, .iload_n 3, 0, 0, 0, []), (23, .invokevirtual 188, 196, 2, 11, [5077, 5079, 71, 1001, 5080]), (26, .ifCond .ne 5, 31, 0, 0, []), (29, .iconst (-1), 0, 0, 0, []), (30, .ireturn, 0, 0, 0, []), (31, .aload_n 0, 0, 0, 0, [])],
  [(32, .getfield 71, 11, 10, 0, [3015]), (35, .aload 4, 0, 0, 0, []), (37, .iload_n 2, 0, 0, 0, []), (38, .iload_n 3, 0, 0, 0, []), (39, .invokevirtual 310, 143, 3, 9, [6179, 6181, 121, 1014, 6182]), (42, .ireturn, 0, 0, 0, [])]]
def gP190 : List (List gE) := [
  [(0, .aload_n 0, 0, 0, 0, []), (1, .iload_n 1, 0, 0, 0, []), (2, .invokevirtual 184, 194, 1, 11, [5073, 5075, 70, 1001, 5076]), (5, .astore 5, 0, 0, 0, []), (7, .aload_n 0, 0, 0, 0, []), (8, .getfield 46, 11, 7, 0, [3012]), (11, .iload_n 2, 0, 0, 0, []), (12, .iconst 3, 0, 0, 0, []), (13, .invokevirtual 140, 3, 2, 0, [5020, 5022, 66, 1004, 5023]), (16, .astore 6, 0, 0, 0, []), (18, .aload 6, 0, 0, 0, []), (20, .ifnull 25, 45, 0, 0, []), (23, .aload_n 0, 0, 0, 0, []), (24, .aload 5, 0, 0, 0, []), (26, .iload_n 3, 0, 0, 0, []), (27, .invokevirtual 188, 196, 2, 11, [5077, 5079, 71, 1001, 5080]), (30, .ifCond .eq 15, 45, 0, 0, [])],
  [(33, .iload 4, 0, 0, 0, []), (35, .ifCond .lt 10, 45, 0, 0, []), (38, .iload 4, 0, 0, 0, []), (40, .bipush 9, 0, 0, 0, []), (42, .if_icmp .le 5, 47, 0, 0, []), (45, .iconst (-1), 0, 0, 0, []), (46, .ireturn, 0, 0, 0, []), (47, .aload_n 0, 0, 0, 0, []), (48, .getfield 71, 11, 10, 0, [3015]), (51, .aload 5, 0, 0, 0, []), (53, .iload_n 2, 0, 0, 0, []), (54, .iload_n 3, 0, 0, 0, []), (55, .invokevirtual 310, 143, 3, 9, [6179, 6181, 121, 1014, 6182]), (58, .istore 7, 0, 0, 0, []), (60, .aload_n 0, 0, 0, 0, []), (61, .getfield 32, 11, 5, 0, [3010])],
  [(64, .bipush 45, 0, 0, 0, []), (66, .iload 7, 0, 0, 0, []), (68, .bipush 23, 0, 0, 0, []), (70, .iadd, 0, 0, 0, []), (71, .bipush 24, 0, 0, 0, []), (73, .idiv, 0, 0, 0, []), (74, .invokevirtual 315, 106, 2, 5, [6202, 6204, 125, 1002, 6205]), (77, .aload_n 0, 0, 0, 0, []), (78, .getfield 32, 11, 5, 0, [3010]), (81, .bipush 46, 0, 0, 0, []), (83, .aload 6, 0, 0, 0, []), (85, .getfield 298, 7, 1, 1, [4183]), (88, .invokevirtual 315, 106, 2, 5, [6202, 6204, 125, 1002, 6205]), (91, .aload_n 0, 0, 0, 0, []), (92, .getfield 32, 11, 5, 0, [3010]), (95, .bipush 47, 0, 0, 0, [])],
  [(97, .iload 4, 0, 0, 0, []), (99, .invokevirtual 315, 106, 2, 5, [6202, 6204, 125, 1002, 6205]), (102, .aload_n 0, 0, 0, 0, []), (103, .getfield 32, 11, 5, 0, [3010]), (106, .bipush 48, 0, 0, 0, []), (108, .iload 7, 0, 0, 0, []), (110, .invokevirtual 315, 106, 2, 5, [6202, 6204, 125, 1002, 6205]), (113, .aload_n 0, 0, 0, 0, []), (114, .getfield 32, 11, 5, 0, [3010]), (117, .bipush 49, 0, 0, 0, []), (119, .aload_n 0, 0, 0, 0, []), (120, .getfield 71, 11, 10, 0, [3015]), (123, .aload 5, 0, 0, 0, []), (125, .iload_n 2, 0, 0, 0, []), (126, .invokevirtual 318, 142, 2, 9, [6206, 6208, 126, 1014, 6209])],
  [(129, .invokevirtual 315, 106, 2, 5, [6202, 6204, 125, 1002, 6205]), (132, .iconst 0, 0, 0, 0, []), (133, .ldc_w 321, 0, 0, 999999, [6210]), (136, .aload_n 0, 0, 0, 0, []), (137, .getfield 32, 11, 5, 0, [3010]), (140, .invokevirtual 322, 107, 0, 5, [6211, 6213, 127, 1002, 6214]), (143, .invokestatic 325, 319, 2, 0, [7000, 5138, 1016, 5139]), (146, .invokestatic 328, 317, 2, 0, [7001, 3102, 1016, 3103]), (149, .ireturn, 0, 0, 0, [])]]
def gP191 : List (List gE) := [
  [(0, .iload_n 1, 0, 0, 0, []), (1, .tableswitch 83 0 5 #[39, 49, 57, 62, 70, 78], 0, 0, 0, [])],
  [(40, .aload_n 0, 0, 0, 0, []), (41, .getfield 39, 11, 6, 0, [3011]), (44, .invokevirtual 112, 52, 0, 3, [4043, 4045, 50, 1003, 4046]), (47, .iconst 1, 0, 0, 0, []), (48, .iadd, 0, 0, 0, []), (49, .ireturn, 0, 0, 0, []), (50, .aload_n 0, 0, 0, 0, []), (51, .getfield 46, 11, 7, 0, [3012]), (54, .getfield 331, 0, 1, 1, [1112]), (57, .ireturn, 0, 0, 0, []), (58, .aload_n 0, 0, 0, 0, []), (59, .getfield 26, 11, 4, 0, [3009]), (62, .ireturn, 0, 0, 0, []), (63, .aload_n 0, 0, 0, 0, [])],
  [(64, .getfield 46, 11, 7, 0, [3012]), (67, .getfield 334, 0, 2, 1, [1114]), (70, .ireturn, 0, 0, 0, []), (71, .aload_n 0, 0, 0, 0, []), (72, .getfield 32, 11, 5, 0, [3010]), (75, .getfield 335, 5, 0, 1, [1039]), (78, .ireturn, 0, 0, 0, []), (79, .aload_n 0, 0, 0, 0, []), (80, .getfield 13, 11, 1, 0, [3006]), (83, .ireturn, 0, 0, 0, []), (84, .iconst (-1), 0, 0, 0, []), (85, .ireturn, 0, 0, 0, [])]]
def gP192 : List (List gE) := [
  [(0, .bipush 24, 0, 0, 0, []), (2, .istore_n 2, 0, 0, 0, []), (3, .iload_n 2, 0, 0, 0, []), (4, .ifCond .lt 37, 41, 0, 0, []), (7, .aload_n 0, 0, 0, 0, []), (8, .getfield 9, 11, 0, 0, [3005]), (11, .aload_n 0, 0, 0, 0, []), (12, .getfield 13, 11, 1, 0, [3006]), (15, .iload_n 1, 0, 0, 0, []), (16, .iload_n 2, 0, 0, 0, []), (17, .iushr, 0, 0, 0, []), (18, .sipush 255, 0, 0, 0, []), (21, .iand, 0, 0, 0, []), (22, .invokestatic 151, 201, 3, 0, [3050, 1084, 1001, 1085]), (25, .aload_n 0, 0, 0, 0, []), (26, .dup, 0, 0, 0, []), (27, .getfield 13, 11, 1, 0, [3006]), (30, .iconst 1, 0, 0, 0, []), (31, .iadd, 0, 0, 0, [])],
  [(32, .putfield 13, 11, 1, 0, [3006]), (35, .iinc 2 (-8), 0, 0, 0, []), (38, .goto (-35), 3, 0, 0, []), (41, .return_, 0, 0, 0, [])]]
def gP193 : List (List gE) := [
  [(0, .aload_n 0, 0, 0, 0, []), (1, .getfield 26, 11, 4, 0, [3009]), (4, .ifCond .lt 15, 19, 0, 0, []), (7, .aload_n 0, 0, 0, 0, []), (8, .getfield 26, 11, 4, 0, [3009]), (11, .aload_n 0, 0, 0, 0, []), (12, .getfield 22, 11, 3, 0, [3008]), (15, .arraylength, 0, 0, 0, []), (16, .if_icmp .lt 4, 20, 0, 0, []), (19, .return_, 0, 0, 0, []), (20, .new 20, 6, 0, 0, [1029, 4042, 1017]), (23, .dup, 0, 0, 0, []), (24, .aload_n 0, 0, 0, 0, []), (25, .getfield 39, 11, 6, 0, [3011]), (28, .invokevirtual 112, 52, 0, 3, [4043, 4045, 50, 1003, 4046]), (31, .invokespecial 338, 114, 1, 1, [4047, 4048, 1017, 4049])],
  [(34, .astore_n 1, 0, 0, 0, []), (35, .aload_n 0, 0, 0, 0, []), (36, .getfield 53, 11, 8, 0, [3013]), (39, .aload_n 1, 0, 0, 0, []), (40, .invokevirtual 340, 82, 1, 4, [4076, 4078, 51, 1005, 4079]), (43, .aload_n 0, 0, 0, 0, []), (44, .getfield 39, 11, 6, 0, [3011]), (47, .invokevirtual 344, 56, 0, 3, [4103, 4105, 56, 1003, 4106]), (50, .aload_n 0, 0, 0, 0, []), (51, .getfield 22, 11, 3, 0, [3008]), (54, .aload_n 0, 0, 0, 0, []), (55, .getfield 26, 11, 4, 0, [3009]), (58, .aload_n 1, 0, 0, 0, []), (59, .aastore, 0, 0, 0, []), (60, .aload_n 0, 0, 0, 0, []), (61, .dup, 0, 0, 0, []), (62, .getfield 26, 11, 4, 0, [3009])],
  [(65, .iconst 1, 0, 0, 0, []), (66, .iadd, 0, 0, 0, []), (67, .putfield 26, 11, 4, 0, [3009]), (70, .return_, 0, 0, 0, [])]]
def gP194 : List (List gE) := [
  [(0, .iload_n 1, 0, 0, 0, []), (1, .ifCond .lt 20, 21, 0, 0, []), (4, .iload_n 1, 0, 0, 0, []), (5, .aload_n 0, 0, 0, 0, []), (6, .getfield 26, 11, 4, 0, [3009]), (9, .if_icmp .ge 12, 21, 0, 0, []), (12, .iload_n 1, 0, 0, 0, []), (13, .aload_n 0, 0, 0, 0, []), (14, .getfield 22, 11, 3, 0, [3008]), (17, .arraylength, 0, 0, 0, []), (18, .if_icmp .lt 7, 25, 0, 0, []), (21, .aconst_null, 0, 0, 0, []), (22, .goto 9, 31, 0, 0, []), (25, .aload_n 0, 0, 0, 0, []), (26, .getfield 22, 11, 3, 0, [3008]), (29, .iload_n 1, 0, 0, 0, []), (30, .aaload, 0, 0, 0, []), (31, .areturn, 0, 0, 0, [])]]
def gP195 : List (List gE) := [
  [(0, .aload_n 0, 0, 0, 0, []), (1, .ifnonnull 7, 8, 0, 0, []), (4, .aconst_null, 0, 0, 0, []), (5, .goto 8, 13, 0, 0, []), (8, .aload_n 0, 0, 0, 0, []), (9, .iload_n 1, 0, 0, 0, []), (10, .invokevirtual 347, 115, 1, 6, [6037, 5124, 79, 1017, 5125]), (13, .areturn, 0, 0, 0, [])]]
def gP196 : List (List gE) := [
  [(0, .aload_n 1, 0, 0, 0, []), (1, .ifnull 26, 27, 0, 0, []), (4, .aload_n 0, 0, 0, 0, []), (5, .getfield 39, 11, 6, 0, [3011]), (8, .iload_n 2, 0, 0, 0, []), (9, .invokevirtual 123, 51, 1, 3, [4150, 4152, 61, 1003, 4153]), (12, .ifCond .eq 15, 27, 0, 0, []), (15, .iload_n 2, 0, 0, 0, []), (16, .aload_n 1, 0, 0, 0, []), (17, .getfield 264, 6, 0, 1, [4055]), (20, .if_icmp .lt 7, 27, 0, 0, []), (23, .iconst 1, 0, 0, 0, []), (24, .goto 4, 28, 0, 0, []), (27, .iconst 0, 0, 0, 0, []), (28, .ireturn, 0, 0, 0, [])]]
def gP197 : List (List gE) := [
  [(0, .aload_n 1, 0, 0, 0, []), (1, .getfield 195, 7, 10, 1, [4212]), (4, .astore_n 2, 0, 0, 0, []), (5, .aload_n 2, 0, 0, 0, []), (6, .ifnonnull 4, 10, 0, 0, []), (9, .return_, 0, 0, 0, []), (10, .aload_n 0, 0, 0, 0, []), (11, .getfield 46, 11, 7, 0, [3012]), (14, .aload_n 2, 0, 0, 0, []), (15, .invokevirtual 351, 19, 1, 0, [5107, 5109, 76, 1004, 5110]), (18, .istore_n 3, 0, 0, 0, []), (19, .aload_n 1, 0, 0, 0, []), (20, .aload_n 0, 0, 0, 0, []), (21, .getfield 62, 11, 9, 0, [3014]), (24, .aload_n 1, 0, 0, 0, []), (25, .getfield 148, 7, 4, 1, [4194]), (28, .aload_n 2, 0, 0, 0, []), (29, .aload_n 1, 0, 0, 0, []), (30, .getfield 202, 7, 12, 1, [4216])],
  [(33, .invokevirtual 355, 28, 3, 2, [5112, 5114, 77, 1012, 5115]), (36, .putfield 164, 7, 6, 1, [4200]), (39, .aload_n 1, 0, 0, 0, []), (40, .iload_n 3, 0, 0, 0, []), (41, .putfield 223, 7, 9, 1, [4209]), (44, .aload_n 1, 0, 0, 0, []), (45, .aload_n 0, 0, 0, 0, []), (46, .getfield 46, 11, 7, 0, [3012]), (49, .invokevirtual 155, 5, 0, 0, [5042, 5006, 64, 1004, 5007]), (52, .putfield 158, 7, 8, 1, [4206]), (55, .return_, 0, 0, 0, [])]]
def gP198 : List (List gE) := [
  [(0, .lload_n 0, 0, 0, 0, []), (1, .ldc2_w 359, 0, 0, -9999, [5040]), (4, .lcmp, 0, 0, 0, []), (5, .ifCond .lt 15, 20, 0, 0, []), (8, .lload_n 0, 0, 0, 0, []), (9, .ldc2_w 361, 0, 0, 9999, [5041]), (12, .lcmp, 0, 0, 0, []), (13, .ifCond .gt 7, 20, 0, 0, []), (16, .iconst 1, 0, 0, 0, []), (17, .goto 4, 21, 0, 0, []), (20, .iconst 0, 0, 0, 0, []), (21, .ireturn, 0, 0, 0, [])]]
def gP199 : List (List gE) := [
  [(0, .aload_n 0, 0, 0, 0, []), (1, .ifnull 13, 14, 0, 0, []), (4, .iload_n 1, 0, 0, 0, []), (5, .ifCond .lt 9, 14, 0, 0, []), (8, .iload_n 1, 0, 0, 0, []), (9, .aload_n 0, 0, 0, 0, []), (10, .arraylength, 0, 0, 0, []), (11, .if_icmp .lt 7, 18, 0, 0, []), (14, .iconst 0, 0, 0, 0, []), (15, .goto 6, 21, 0, 0, []), (18, .aload_n 0, 0, 0, 0, []), (19, .iload_n 1, 0, 0, 0, []), (20, .iaload, 0, 0, 0, []), (21, .ireturn, 0, 0, 0, [])]]
def gP200 : List (List gE) := [
  [(0, .aload_n 0, 0, 0, 0, []), (1, .ifnull 13, 14, 0, 0, []), (4, .iload_n 1, 0, 0, 0, []), (5, .ifCond .lt 9, 14, 0, 0, []), (8, .iload_n 1, 0, 0, 0, []), (9, .aload_n 0, 0, 0, 0, []), (10, .arraylength, 0, 0, 0, []), (11, .if_icmp .lt 7, 18, 0, 0, []), (14, .lconst 0, 0, 0, 0, []), (15, .goto 6, 21, 0, 0, []), (18, .aload_n 0, 0, 0, 0, []), (19, .iload_n 1, 0, 0, 0, []), (20, .laload, 0, 0, 0, []), (21, .lreturn, 0, 0, 0, [])]]
def gP201 : List (List gE) := [
  [(0, .aload_n 0, 0, 0, 0, []), (1, .ifnull 17, 18, 0, 0, []), (4, .iload_n 1, 0, 0, 0, []), (5, .ifCond .lt 13, 18, 0, 0, []), (8, .iload_n 1, 0, 0, 0, []), (9, .aload_n 0, 0, 0, 0, []), (10, .arraylength, 0, 0, 0, []), (11, .if_icmp .ge 7, 18, 0, 0, []), (14, .aload_n 0, 0, 0, 0, []), (15, .iload_n 1, 0, 0, 0, []), (16, .iload_n 2, 0, 0, 0, []), (17, .iastore, 0, 0, 0, []), (18, .return_, 0, 0, 0, [])]]
def gP202 : List (List gE) := [
  [(0, .aload_n 0, 0, 0, 0, []), (1, .ifnull 17, 18, 0, 0, []), (4, .iload_n 1, 0, 0, 0, []), (5, .ifCond .lt 13, 18, 0, 0, []), (8, .iload_n 1, 0, 0, 0, []), (9, .aload_n 0, 0, 0, 0, []), (10, .arraylength, 0, 0, 0, []), (11, .if_icmp .ge 7, 18, 0, 0, []), (14, .aload_n 0, 0, 0, 0, []), (15, .iload_n 1, 0, 0, 0, []), (16, .lload_n 2, 0, 0, 0, []), (17, .lastore, 0, 0, 0, []), (18, .return_, 0, 0, 0, [])]]
def gP203 : List (List gE) := [
  [(0, .aload_n 0, 0, 0, 0, []), (1, .ifnull 8, 9, 0, 0, []), (4, .aload_n 0, 0, 0, 0, []), (5, .iload_n 1, 0, 0, 0, []), (6, .invokestatic 363, 331, 2, 0, [5092, 5093, 1019, 5094]), (9, .return_, 0, 0, 0, [])]]
def gP204 : List (List gE) := [
  [(0, .aload_n 0, 0, 0, 0, []), (1, .invokespecial 7, 9999, 0, 0, [7011, 1027, 1028]), (4, .aload_n 0, 0, 0, 0, []), (5, .sipush 2000, 0, 0, 0, []), (8, .newarray .byte, 2, 0, 0, [1228]), (10, .putfield 13, 12, 1, 0, [7019]), (13, .aload_n 0, 0, 0, 0, []), (14, .sipush 2000, 0, 0, 0, []), (17, .newarray .byte, 2, 0, 0, [1228]), (19, .putfield 17, 12, 3, 0, [7021]), (22, .aload_n 0, 0, 0, 0, []), (23, .sipush 503, 0, 0, 0, []), (26, .newarray .int, 0, 0, 0, [1076]), (28, .putfield 20, 12, 5, 0, [7023]), (31, .aload_n 0, 0, 0, 0, [])],
  [(32, .sipush 503, 0, 0, 0, []), (35, .newarray .int, 0, 0, 0, [1076]), (37, .putfield 24, 12, 6, 0, [7024]), (40, .aload_n 0, 0, 0, 0, []), (41, .sipush 503, 0, 0, 0, []), (44, .newarray .int, 0, 0, 0, [1076]), (46, .putfield 27, 12, 7, 0, [7025]), (49, .aload_n 0, 0, 0, 0, []), (50, .sipush 503, 0, 0, 0, []), (53, .newarray .long, 1, 0, 0, [1227]), (55, .putfield 30, 12, 8, 0, [7026]), (58, .aload_n 0, 0, 0, 0, []), (59, .bipush 34, 0, 0, 0, []), (61, .newarray .long, 1, 0, 0, [1227]), (63, .putfield 34, 12, 9, 0, [7027])],
  [(66, .aload_n 0, 0, 0, 0, []), (67, .iconst (-1), 0, 0, 0, []), (68, .putfield 37, 12, 17, 0, [7035]), (71, .aload_n 0, 0, 0, 0, []), (72, .bipush 9, 0, 0, 0, []), (74, .newarray .int, 0, 0, 0, [1076]), (76, .putfield 40, 12, 19, 0, [7037]), (79, .aload_n 0, 0, 0, 0, []), (80, .bipush 9, 0, 0, 0, []), (82, .newarray .int, 0, 0, 0, [1076]), (84, .putfield 43, 12, 20, 0, [7038]), (87, .aload_n 0, 0, 0, 0, []), (88, .bipush 54, 0, 0, 0, []), (90, .newarray .long, 1, 0, 0, [1227]), (92, .putfield 46, 12, 21, 0, [7039]), (95, .aload_n 0, 0, 0, 0, [])],
  [(96, .bipush 63, 0, 0, 0, []), (98, .newarray .int, 0, 0, 0, [1076]), (100, .putfield 49, 12, 22, 0, [7040]), (103, .aload_n 0, 0, 0, 0, []), (104, .bipush 63, 0, 0, 0, []), (106, .newarray .int, 0, 0, 0, [1076]), (108, .putfield 52, 12, 23, 0, [7041]), (111, .aload_n 0, 0, 0, 0, []), (112, .sipush 1008, 0, 0, 0, []), (115, .newarray .int, 0, 0, 0, [1076]), (117, .putfield 55, 12, 24, 0, [7042]), (120, .aload_n 0, 0, 0, 0, []), (121, .sipush 1008, 0, 0, 0, []), (124, .newarray .int, 0, 0, 0, [1076]), (126, .putfield 58, 12, 25, 0, [7043])],
  [(129, .aload_n 0, 0, 0, 0, []), (130, .sipush 1008, 0, 0, 0, []), (133, .newarray .int, 0, 0, 0, [1076]), (135, .putfield 61, 12, 26, 0, [7044]), (138, .aload_n 0, 0, 0, 0, []), (139, .sipush 1008, 0, 0, 0, []), (142, .newarray .int, 0, 0, 0, [1076]), (144, .putfield 64, 12, 27, 0, [7045]), (147, .aload_n 0, 0, 0, 0, []), (148, .sipush 1008, 0, 0, 0, []), (151, .newarray .int, 0, 0, 0, [1076]), (153, .putfield 67, 12, 28, 0, [7046]), (156, .aload_n 0, 0, 0, 0, []), (157, .sipush 1008, 0, 0, 0, [])],
  [(160, .newarray .int, 0, 0, 0, [1076]), (162, .putfield 70, 12, 29, 0, [7047]), (165, .aload_n 0, 0, 0, 0, []), (166, .sipush 1008, 0, 0, 0, []), (169, .newarray .int, 0, 0, 0, [1076]), (171, .putfield 73, 12, 30, 0, [7048]), (174, .aload_n 0, 0, 0, 0, []), (175, .sipush 6048, 0, 0, 0, []), (178, .newarray .int, 0, 0, 0, [1076]), (180, .putfield 76, 12, 31, 0, [7049]), (183, .aload_n 0, 0, 0, 0, []), (184, .iconst 2, 0, 0, 0, []), (185, .newarray .int, 0, 0, 0, [1076]), (187, .putfield 79, 12, 36, 0, [7054]), (190, .aload_n 0, 0, 0, 0, []), (191, .bipush 24, 0, 0, 0, [])],
  [(193, .newarray .int, 0, 0, 0, [1076]), (195, .putfield 82, 12, 37, 0, [7055]), (198, .aload_n 0, 0, 0, 0, []), (199, .bipush 24, 0, 0, 0, []), (201, .newarray .int, 0, 0, 0, [1076]), (203, .putfield 85, 12, 38, 0, [7056]), (206, .aload_n 0, 0, 0, 0, []), (207, .bipush 24, 0, 0, 0, []), (209, .newarray .int, 0, 0, 0, [1076]), (211, .putfield 88, 12, 39, 0, [7057]), (214, .aload_n 0, 0, 0, 0, []), (215, .bipush 24, 0, 0, 0, []), (217, .newarray .int, 0, 0, 0, [1076]), (219, .putfield 91, 12, 40, 0, [7058]), (222, .aload_n 0, 0, 0, 0, []), (223, .bipush 24, 0, 0, 0, [])],
  [(225, .newarray .int, 0, 0, 0, [1076]), (227, .putfield 94, 12, 41, 0, [7059]), (230, .aload_n 0, 0, 0, 0, []), (231, .bipush 24, 0, 0, 0, []), (233, .newarray .int, 0, 0, 0, [1076]), (235, .putfield 97, 12, 42, 0, [7060]), (238, .aload_n 0, 0, 0, 0, []), (239, .bipush 24, 0, 0, 0, []), (241, .newarray .int, 0, 0, 0, [1076]), (243, .putfield 100, 12, 43, 0, [7061]), (246, .aload_n 0, 0, 0, 0, []), (247, .sipush 400, 0, 0, 0, []), (250, .newarray .int, 0, 0, 0, [1076]), (252, .putfield 103, 12, 45, 0, [7063]), (255, .aload_n 0, 0, 0, 0, [])],
  [(256, .sipush 400, 0, 0, 0, []), (259, .newarray .boolean, 3, 0, 0, [8091]), (261, .putfield 106, 12, 46, 0, [7064]), (264, .aload_n 0, 0, 0, 0, []), (265, .sipush 400, 0, 0, 0, []), (268, .newarray .boolean, 3, 0, 0, [8091]), (270, .putfield 110, 12, 47, 0, [7065]), (273, .aload_n 0, 0, 0, 0, []), (274, .sipush 400, 0, 0, 0, []), (277, .newarray .int, 0, 0, 0, [1076]), (279, .putfield 113, 12, 48, 0, [7066]), (282, .aload_n 0, 0, 0, 0, []), (283, .sipush 400, 0, 0, 0, []), (286, .newarray .int, 0, 0, 0, [1076])],
  [(288, .putfield 116, 12, 49, 0, [7067]), (291, .aload_n 0, 0, 0, 0, []), (292, .sipush 400, 0, 0, 0, []), (295, .newarray .int, 0, 0, 0, [1076]), (297, .putfield 119, 12, 50, 0, [7068]), (300, .aload_n 0, 0, 0, 0, []), (301, .sipush 1200, 0, 0, 0, []), (304, .newarray .int, 0, 0, 0, [1076]), (306, .putfield 122, 12, 52, 0, [7070]), (309, .aload_n 0, 0, 0, 0, []), (310, .sipush 1200, 0, 0, 0, []), (313, .newarray .int, 0, 0, 0, [1076]), (315, .putfield 125, 12, 53, 0, [7071]), (318, .aload_n 0, 0, 0, 0, []), (319, .bipush 64, 0, 0, 0, [])],
  [(321, .newarray .int, 0, 0, 0, [1076]), (323, .putfield 128, 12, 54, 0, [7072]), (326, .aload_n 0, 0, 0, 0, []), (327, .iconst 5, 0, 0, 0, []), (328, .newarray .int, 0, 0, 0, [1076]), (330, .putfield 131, 12, 56, 0, [7074]), (333, .aload_n 0, 0, 0, 0, []), (334, .sipush 500, 0, 0, 0, []), (337, .newarray .int, 0, 0, 0, [1076]), (339, .putfield 134, 12, 57, 0, [7075]), (342, .aload_n 0, 0, 0, 0, []), (343, .bipush 6, 0, 0, 0, []), (345, .newarray .int, 0, 0, 0, [1076]), (347, .putfield 137, 12, 61, 0, [7079]), (350, .aload_n 0, 0, 0, 0, []), (351, .bipush 6, 0, 0, 0, [])],
  [(353, .newarray .int, 0, 0, 0, [1076]), (355, .putfield 140, 12, 62, 0, [7080]), (358, .aload_n 0, 0, 0, 0, []), (359, .sipush 360, 0, 0, 0, []), (362, .newarray .int, 0, 0, 0, [1076]), (364, .putfield 143, 12, 63, 0, [7081]), (367, .aload_n 0, 0, 0, 0, []), (368, .bipush 20, 0, 0, 0, []), (370, .newarray .int, 0, 0, 0, [1076]), (372, .putfield 146, 12, 66, 0, [7084]), (375, .aload_n 0, 0, 0, 0, []), (376, .bipush 20, 0, 0, 0, []), (378, .newarray .int, 0, 0, 0, [1076]), (380, .putfield 149, 12, 67, 0, [7085]), (383, .aload_n 0, 0, 0, 0, [])],
  [(384, .bipush 20, 0, 0, 0, []), (386, .newarray .int, 0, 0, 0, [1076]), (388, .putfield 152, 12, 68, 0, [7086]), (391, .aload_n 0, 0, 0, 0, []), (392, .bipush 20, 0, 0, 0, []), (394, .newarray .int, 0, 0, 0, [1076]), (396, .putfield 155, 12, 69, 0, [7087]), (399, .aload_n 0, 0, 0, 0, []), (400, .bipush 20, 0, 0, 0, []), (402, .newarray .int, 0, 0, 0, [1076]), (404, .putfield 158, 12, 70, 0, [7088]), (407, .aload_n 0, 0, 0, 0, []), (408, .bipush 20, 0, 0, 0, []), (410, .newarray .int, 0, 0, 0, [1076]), (412, .putfield 161, 12, 71, 0, [7089]), (415, .aload_n 0, 0, 0, 0, [])],
  [(416, .bipush 20, 0, 0, 0, []), (418, .newarray .int, 0, 0, 0, [1076]), (420, .putfield 164, 12, 72, 0, [7090]), (423, .aload_n 0, 0, 0, 0, []), (424, .bipush 20, 0, 0, 0, []), (426, .newarray .int, 0, 0, 0, [1076]), (428, .putfield 167, 12, 73, 0, [7091]), (431, .aload_n 0, 0, 0, 0, []), (432, .bipush 20, 0, 0, 0, []), (434, .newarray .int, 0, 0, 0, [1076]), (436, .putfield 170, 12, 74, 0, [7092]), (439, .aload_n 0, 0, 0, 0, []), (440, .sipush 4800, 0, 0, 0, []), (443, .newarray .int, 0, 0, 0, [1076]), (445, .putfield 173, 12, 75, 0, [7093])],
  [(448, .aload_n 0, 0, 0, 0, []), (449, .bipush 20, 0, 0, 0, []), (451, .newarray .int, 0, 0, 0, [1076]), (453, .putfield 176, 12, 76, 0, [7094]), (456, .aload_n 0, 0, 0, 0, []), (457, .sipush 160, 0, 0, 0, []), (460, .newarray .int, 0, 0, 0, [1076]), (462, .putfield 179, 12, 77, 0, [7095]), (465, .aload_n 0, 0, 0, 0, []), (466, .bipush 8, 0, 0, 0, []), (468, .newarray .int, 0, 0, 0, [1076]), (470, .putfield 182, 12, 78, 0, [7096]), (473, .aload_n 0, 0, 0, 0, []), (474, .bipush 8, 0, 0, 0, []), (476, .newarray .int, 0, 0, 0, [1076]), (478, .putfield 185, 12, 79, 0, [7097])],
  [(481, .aload_n 0, 0, 0, 0, []), (482, .bipush 8, 0, 0, 0, []), (484, .newarray .int, 0, 0, 0, [1076]), (486, .putfield 188, 12, 80, 0, [7098]), (489, .aload_n 0, 0, 0, 0, []), (490, .bipush 20, 0, 0, 0, []), (492, .newarray .int, 0, 0, 0, [1076]), (494, .putfield 191, 12, 81, 0, [7099]), (497, .aload_n 0, 0, 0, 0, []), (498, .bipush 40, 0, 0, 0, []), (500, .newarray .int, 0, 0, 0, [1076]), (502, .putfield 194, 12, 83, 0, [7101]), (505, .aload_n 0, 0, 0, 0, []), (506, .bipush 40, 0, 0, 0, []), (508, .newarray .int, 0, 0, 0, [1076]), (510, .putfield 197, 12, 84, 0, [7102])],
  [(513, .aload_n 0, 0, 0, 0, []), (514, .bipush 8, 0, 0, 0, []), (516, .newarray .int, 0, 0, 0, [1076]), (518, .putfield 200, 12, 85, 0, [7103]), (521, .aload_n 0, 0, 0, 0, []), (522, .bipush 8, 0, 0, 0, []), (524, .newarray .int, 0, 0, 0, [1076]), (526, .putfield 203, 12, 86, 0, [7104]), (529, .aload_n 0, 0, 0, 0, []), (530, .bipush 8, 0, 0, 0, []), (532, .newarray .int, 0, 0, 0, [1076]), (534, .putfield 206, 12, 87, 0, [7105]), (537, .aload_n 0, 0, 0, 0, []), (538, .sipush 720, 0, 0, 0, []), (541, .newarray .long, 1, 0, 0, [1227]), (543, .putfield 209, 12, 89, 0, [7107])],
  [(546, .aload_n 0, 0, 0, 0, []), (547, .sipush 720, 0, 0, 0, []), (550, .newarray .boolean, 3, 0, 0, [8091]), (552, .putfield 212, 12, 90, 0, [7108]), (555, .aload_n 0, 0, 0, 0, []), (556, .sipush 240, 0, 0, 0, []), (559, .newarray .long, 1, 0, 0, [1227]), (561, .putfield 215, 12, 91, 0, [7109]), (564, .aload_n 0, 0, 0, 0, []), (565, .sipush 240, 0, 0, 0, []), (568, .newarray .int, 0, 0, 0, [1076]), (570, .putfield 218, 12, 92, 0, [7110]), (573, .aload_n 0, 0, 0, 0, []), (574, .bipush 8, 0, 0, 0, [])],
  [(576, .newarray .int, 0, 0, 0, [1076]), (578, .putfield 221, 12, 95, 0, [7113]), (581, .aload_n 0, 0, 0, 0, []), (582, .bipush 20, 0, 0, 0, []), (584, .newarray .boolean, 3, 0, 0, [8091]), (586, .putfield 224, 12, 96, 0, [7114]), (589, .aload_n 0, 0, 0, 0, []), (590, .bipush 20, 0, 0, 0, []), (592, .newarray .int, 0, 0, 0, [1076]), (594, .putfield 227, 12, 97, 0, [7115]), (597, .aload_n 0, 0, 0, 0, []), (598, .bipush 60, 0, 0, 0, []), (600, .newarray .boolean, 3, 0, 0, [8091]), (602, .putfield 230, 12, 98, 0, [7116]), (605, .aload_n 0, 0, 0, 0, []), (606, .sipush 240, 0, 0, 0, [])],
  [(609, .newarray .int, 0, 0, 0, [1076]), (611, .putfield 233, 12, 99, 0, [7117]), (614, .aload_n 0, 0, 0, 0, []), (615, .getfield 34, 12, 9, 0, [7027]), (618, .iconst 0, 0, 0, 0, []), (619, .bipush 98, 0, 0, 0, []), (621, .bipush 108, 0, 0, 0, []), (623, .bipush 111, 0, 0, 0, []), (625, .bipush 99, 0, 0, 0, []), (627, .bipush 107, 0, 0, 0, []), (629, .iconst 0, 0, 0, 0, []), (630, .iconst 0, 0, 0, 0, []), (631, .invokestatic 236, 212, 7, 0, [7012, 7013, 1015, 7014]), (634, .lastore, 0, 0, 0, []), (635, .aload_n 0, 0, 0, 0, []), (636, .getfield 34, 12, 9, 0, [7027]), (639, .iconst 1, 0, 0, 0, [])],
  [(640, .bipush 101, 0, 0, 0, []), (642, .bipush 110, 0, 0, 0, []), (644, .bipush 100, 0, 0, 0, []), (646, .iconst 0, 0, 0, 0, []), (647, .iconst 0, 0, 0, 0, []), (648, .iconst 0, 0, 0, 0, []), (649, .iconst 0, 0, 0, 0, []), (650, .invokestatic 236, 212, 7, 0, [7012, 7013, 1015, 7014]), (653, .lastore, 0, 0, 0, []), (654, .aload_n 0, 0, 0, 0, []), (655, .getfield 34, 12, 9, 0, [7027]), (658, .iconst 2, 0, 0, 0, []), (659, .bipush 115, 0, 0, 0, []), (661, .bipush 104, 0, 0, 0, []), (663, .bipush 101, 0, 0, 0, []), (665, .bipush 101, 0, 0, 0, []), (667, .bipush 116, 0, 0, 0, []), (669, .iconst 0, 0, 0, 0, []), (670, .iconst 0, 0, 0, 0, []), (671, .invokestatic 236, 212, 7, 0, [7012, 7013, 1015, 7014])],
  [(674, .lastore, 0, 0, 0, []), (675, .aload_n 0, 0, 0, 0, []), (676, .getfield 34, 12, 9, 0, [7027]), (679, .iconst 3, 0, 0, 0, []), (680, .bipush 114, 0, 0, 0, []), (682, .bipush 117, 0, 0, 0, []), (684, .bipush 108, 0, 0, 0, []), (686, .bipush 101, 0, 0, 0, []), (688, .bipush 115, 0, 0, 0, []), (690, .iconst 0, 0, 0, 0, []), (691, .iconst 0, 0, 0, 0, []), (692, .invokestatic 236, 212, 7, 0, [7012, 7013, 1015, 7014]), (695, .lastore, 0, 0, 0, []), (696, .aload_n 0, 0, 0, 0, []), (697, .getfield 34, 12, 9, 0, [7027]), (700, .iconst 4, 0, 0, 0, []), (701, .bipush 108, 0, 0, 0, []), (703, .bipush 97, 0, 0, 0, [])],
  [(705, .bipush 121, 0, 0, 0, []), (707, .iconst 0, 0, 0, 0, []), (708, .iconst 0, 0, 0, 0, []), (709, .iconst 0, 0, 0, 0, []), (710, .iconst 0, 0, 0, 0, []), (711, .invokestatic 236, 212, 7, 0, [7012, 7013, 1015, 7014]), (714, .lastore, 0, 0, 0, []), (715, .aload_n 0, 0, 0, 0, []), (716, .getfield 34, 12, 9, 0, [7027]), (719, .iconst 5, 0, 0, 0, []), (720, .bipush 97, 0, 0, 0, []), (722, .bipush 116, 0, 0, 0, []), (724, .iconst 0, 0, 0, 0, []), (725, .iconst 0, 0, 0, 0, []), (726, .iconst 0, 0, 0, 0, []), (727, .iconst 0, 0, 0, 0, []), (728, .iconst 0, 0, 0, 0, []), (729, .invokestatic 236, 212, 7, 0, [7012, 7013, 1015, 7014]), (732, .lastore, 0, 0, 0, []), (733, .aload_n 0, 0, 0, 0, []), (734, .getfield 34, 12, 9, 0, [7027])],
  [(737, .bipush 6, 0, 0, 0, []), (739, .bipush 102, 0, 0, 0, []), (741, .bipush 114, 0, 0, 0, []), (743, .bipush 111, 0, 0, 0, []), (745, .bipush 109, 0, 0, 0, []), (747, .iconst 0, 0, 0, 0, []), (748, .iconst 0, 0, 0, 0, []), (749, .iconst 0, 0, 0, 0, []), (750, .invokestatic 236, 212, 7, 0, [7012, 7013, 1015, 7014]), (753, .lastore, 0, 0, 0, []), (754, .aload_n 0, 0, 0, 0, []), (755, .getfield 34, 12, 9, 0, [7027]), (758, .bipush 7, 0, 0, 0, []), (760, .bipush 102, 0, 0, 0, []), (762, .bipush 111, 0, 0, 0, []), (764, .bipush 114, 0, 0, 0, []), (766, .iconst 0, 0, 0, 0, []), (767, .iconst 0, 0, 0, 0, [])],
  [(768, .iconst 0, 0, 0, 0, []), (769, .iconst 0, 0, 0, 0, []), (770, .invokestatic 236, 212, 7, 0, [7012, 7013, 1015, 7014]), (773, .lastore, 0, 0, 0, []), (774, .aload_n 0, 0, 0, 0, []), (775, .getfield 34, 12, 9, 0, [7027]), (778, .bipush 8, 0, 0, 0, []), (780, .bipush 103, 0, 0, 0, []), (782, .bipush 97, 0, 0, 0, []), (784, .bipush 105, 0, 0, 0, []), (786, .bipush 110, 0, 0, 0, []), (788, .iconst 0, 0, 0, 0, []), (789, .iconst 0, 0, 0, 0, []), (790, .iconst 0, 0, 0, 0, []), (791, .invokestatic 236, 212, 7, 0, [7012, 7013, 1015, 7014]), (794, .lastore, 0, 0, 0, []), (795, .aload_n 0, 0, 0, 0, []), (796, .getfield 34, 12, 9, 0, [7027]), (799, .bipush 9, 0, 0, 0, [])],
  [(801, .bipush 115, 0, 0, 0, []), (803, .bipush 112, 0, 0, 0, []), (805, .bipush 101, 0, 0, 0, []), (807, .bipush 101, 0, 0, 0, []), (809, .bipush 100, 0, 0, 0, []), (811, .iconst 0, 0, 0, 0, []), (812, .iconst 0, 0, 0, 0, []), (813, .invokestatic 236, 212, 7, 0, [7012, 7013, 1015, 7014]), (816, .lastore, 0, 0, 0, []), (817, .aload_n 0, 0, 0, 0, []), (818, .getfield 34, 12, 9, 0, [7027]), (821, .bipush 10, 0, 0, 0, []), (823, .bipush 115, 0, 0, 0, []), (825, .bipush 116, 0, 0, 0, []), (827, .bipush 101, 0, 0, 0, []), (829, .bipush 109, 0, 0, 0, []), (831, .iconst 0, 0, 0, 0, [])],
  [(832, .iconst 0, 0, 0, 0, []), (833, .iconst 0, 0, 0, 0, []), (834, .invokestatic 236, 212, 7, 0, [7012, 7013, 1015, 7014]), (837, .lastore, 0, 0, 0, []), (838, .aload_n 0, 0, 0, 0, []), (839, .getfield 34, 12, 9, 0, [7027]), (842, .bipush 11, 0, 0, 0, []), (844, .bipush 102, 0, 0, 0, []), (846, .bipush 97, 0, 0, 0, []), (848, .bipush 100, 0, 0, 0, []), (850, .bipush 101, 0, 0, 0, []), (852, .iconst 0, 0, 0, 0, []), (853, .iconst 0, 0, 0, 0, []), (854, .iconst 0, 0, 0, 0, []), (855, .invokestatic 236, 212, 7, 0, [7012, 7013, 1015, 7014]), (858, .lastore, 0, 0, 0, []), (859, .aload_n 0, 0, 0, 0, []), (860, .getfield 34, 12, 9, 0, [7027]), (863, .bipush 12, 0, 0, 0, [])],
  [(865, .bipush 116, 0, 0, 0, []), (867, .bipush 111, 0, 0, 0, []), (869, .iconst 0, 0, 0, 0, []), (870, .iconst 0, 0, 0, 0, []), (871, .iconst 0, 0, 0, 0, []), (872, .iconst 0, 0, 0, 0, []), (873, .iconst 0, 0, 0, 0, []), (874, .invokestatic 236, 212, 7, 0, [7012, 7013, 1015, 7014]), (877, .lastore, 0, 0, 0, []), (878, .aload_n 0, 0, 0, 0, []), (879, .getfield 34, 12, 9, 0, [7027]), (882, .bipush 13, 0, 0, 0, []), (884, .bipush 100, 0, 0, 0, []), (886, .bipush 105, 0, 0, 0, []), (888, .bipush 112, 0, 0, 0, []), (890, .iconst 0, 0, 0, 0, []), (891, .iconst 0, 0, 0, 0, []), (892, .iconst 0, 0, 0, 0, []), (893, .iconst 0, 0, 0, 0, []), (894, .invokestatic 236, 212, 7, 0, [7012, 7013, 1015, 7014])],
  [(897, .lastore, 0, 0, 0, []), (898, .aload_n 0, 0, 0, 0, []), (899, .getfield 34, 12, 9, 0, [7027]), (902, .bipush 14, 0, 0, 0, []), (904, .bipush 117, 0, 0, 0, []), (906, .bipush 110, 0, 0, 0, []), (908, .bipush 100, 0, 0, 0, []), (910, .bipush 101, 0, 0, 0, []), (912, .bipush 114, 0, 0, 0, []), (914, .iconst 0, 0, 0, 0, []), (915, .iconst 0, 0, 0, 0, []), (916, .invokestatic 236, 212, 7, 0, [7012, 7013, 1015, 7014]), (919, .lastore, 0, 0, 0, []), (920, .aload_n 0, 0, 0, 0, []), (921, .getfield 34, 12, 9, 0, [7027]), (924, .bipush 15, 0, 0, 0, []), (926, .bipush 98, 0, 0, 0, [])],
  [(928, .bipush 121, 0, 0, 0, []), (930, .iconst 0, 0, 0, 0, []), (931, .iconst 0, 0, 0, 0, []), (932, .iconst 0, 0, 0, 0, []), (933, .iconst 0, 0, 0, 0, []), (934, .iconst 0, 0, 0, 0, []), (935, .invokestatic 236, 212, 7, 0, [7012, 7013, 1015, 7014]), (938, .lastore, 0, 0, 0, []), (939, .aload_n 0, 0, 0, 0, []), (940, .getfield 34, 12, 9, 0, [7027]), (943, .bipush 16, 0, 0, 0, []), (945, .bipush 104, 0, 0, 0, []), (947, .bipush 111, 0, 0, 0, []), (949, .bipush 108, 0, 0, 0, []), (951, .bipush 100, 0, 0, 0, []), (953, .iconst 0, 0, 0, 0, []), (954, .iconst 0, 0, 0, 0, []), (955, .iconst 0, 0, 0, 0, []), (956, .invokestatic 236, 212, 7, 0, [7012, 7013, 1015, 7014]), (959, .lastore, 0, 0, 0, [])],
  [(960, .aload_n 0, 0, 0, 0, []), (961, .getfield 34, 12, 9, 0, [7027]), (964, .bipush 17, 0, 0, 0, []), (966, .bipush 116, 0, 0, 0, []), (968, .bipush 97, 0, 0, 0, []), (970, .bipush 112, 0, 0, 0, []), (972, .bipush 115, 0, 0, 0, []), (974, .iconst 0, 0, 0, 0, []), (975, .iconst 0, 0, 0, 0, []), (976, .iconst 0, 0, 0, 0, []), (977, .invokestatic 236, 212, 7, 0, [7012, 7013, 1015, 7014]), (980, .lastore, 0, 0, 0, []), (981, .aload_n 0, 0, 0, 0, []), (982, .getfield 34, 12, 9, 0, [7027]), (985, .bipush 18, 0, 0, 0, []), (987, .bipush 111, 0, 0, 0, []), (989, .bipush 102, 0, 0, 0, []), (991, .iconst 0, 0, 0, 0, [])],
  [(992, .iconst 0, 0, 0, 0, []), (993, .iconst 0, 0, 0, 0, []), (994, .iconst 0, 0, 0, 0, []), (995, .iconst 0, 0, 0, 0, []), (996, .invokestatic 236, 212, 7, 0, [7012, 7013, 1015, 7014]), (999, .lastore, 0, 0, 0, []), (1000, .aload_n 0, 0, 0, 0, []), (1001, .getfield 34, 12, 9, 0, [7027]), (1004, .bipush 19, 0, 0, 0, []), (1006, .bipush 99, 0, 0, 0, []), (1008, .bipush 108, 0, 0, 0, []), (1010, .bipush 105, 0, 0, 0, []), (1012, .bipush 112, 0, 0, 0, []), (1014, .iconst 0, 0, 0, 0, []), (1015, .iconst 0, 0, 0, 0, []), (1016, .iconst 0, 0, 0, 0, []), (1017, .invokestatic 236, 212, 7, 0, [7012, 7013, 1015, 7014]), (1020, .lastore, 0, 0, 0, []), (1021, .aload_n 0, 0, 0, 0, []), (1022, .getfield 34, 12, 9, 0, [7027])],
  [(1025, .bipush 20, 0, 0, 0, []), (1027, .bipush 117, 0, 0, 0, []), (1029, .bipush 115, 0, 0, 0, []), (1031, .bipush 101, 0, 0, 0, []), (1033, .iconst 0, 0, 0, 0, []), (1034, .iconst 0, 0, 0, 0, []), (1035, .iconst 0, 0, 0, 0, []), (1036, .iconst 0, 0, 0, 0, []), (1037, .invokestatic 236, 212, 7, 0, [7012, 7013, 1015, 7014]), (1040, .lastore, 0, 0, 0, []), (1041, .aload_n 0, 0, 0, 0, []), (1042, .getfield 34, 12, 9, 0, [7027]), (1045, .bipush 21, 0, 0, 0, []), (1047, .bipush 109, 0, 0, 0, []), (1049, .bipush 97, 0, 0, 0, []), (1051, .bipush 114, 0, 0, 0, []), (1053, .bipush 107, 0, 0, 0, []), (1055, .iconst 0, 0, 0, 0, [])],
  [(1056, .iconst 0, 0, 0, 0, []), (1057, .iconst 0, 0, 0, 0, []), (1058, .invokestatic 236, 212, 7, 0, [7012, 7013, 1015, 7014]), (1061, .lastore, 0, 0, 0, []), (1062, .aload_n 0, 0, 0, 0, []), (1063, .getfield 34, 12, 9, 0, [7027]), (1066, .bipush 22, 0, 0, 0, []), (1068, .bipush 114, 0, 0, 0, []), (1070, .bipush 105, 0, 0, 0, []), (1072, .bipush 103, 0, 0, 0, []), (1074, .bipush 104, 0, 0, 0, []), (1076, .bipush 116, 0, 0, 0, []), (1078, .iconst 0, 0, 0, 0, []), (1079, .iconst 0, 0, 0, 0, []), (1080, .invokestatic 236, 212, 7, 0, [7012, 7013, 1015, 7014]), (1083, .lastore, 0, 0, 0, []), (1084, .aload_n 0, 0, 0, 0, []), (1085, .getfield 34, 12, 9, 0, [7027])],
  [(1088, .bipush 23, 0, 0, 0, []), (1090, .bipush 105, 0, 0, 0, []), (1092, .bipush 102, 0, 0, 0, []), (1094, .iconst 0, 0, 0, 0, []), (1095, .iconst 0, 0, 0, 0, []), (1096, .iconst 0, 0, 0, 0, []), (1097, .iconst 0, 0, 0, 0, []), (1098, .iconst 0, 0, 0, 0, []), (1099, .invokestatic 236, 212, 7, 0, [7012, 7013, 1015, 7014]), (1102, .lastore, 0, 0, 0, []), (1103, .aload_n 0, 0, 0, 0, []), (1104, .getfield 34, 12, 9, 0, [7027]), (1107, .bipush 24, 0, 0, 0, []), (1109, .bipush 108, 0, 0, 0, []), (1111, .bipush 111, 0, 0, 0, []), (1113, .bipush 117, 0, 0, 0, []), (1115, .bipush 100, 0, 0, 0, []), (1117, .iconst 0, 0, 0, 0, []), (1118, .iconst 0, 0, 0, 0, []), (1119, .iconst 0, 0, 0, 0, [])],
  [(1120, .invokestatic 236, 212, 7, 0, [7012, 7013, 1015, 7014]), (1123, .lastore, 0, 0, 0, []), (1124, .aload_n 0, 0, 0, 0, []), (1125, .getfield 34, 12, 9, 0, [7027]), (1128, .bipush 25, 0, 0, 0, []), (1130, .bipush 105, 0, 0, 0, []), (1132, .bipush 110, 0, 0, 0, []), (1134, .iconst 0, 0, 0, 0, []), (1135, .iconst 0, 0, 0, 0, []), (1136, .iconst 0, 0, 0, 0, []), (1137, .iconst 0, 0, 0, 0, []), (1138, .iconst 0, 0, 0, 0, []), (1139, .invokestatic 236, 212, 7, 0, [7012, 7013, 1015, 7014]), (1142, .lastore, 0, 0, 0, []), (1143, .aload_n 0, 0, 0, 0, []), (1144, .getfield 34, 12, 9, 0, [7027]), (1147, .bipush 26, 0, 0, 0, []), (1149, .bipush 111, 0, 0, 0, []), (1151, .bipush 114, 0, 0, 0, [])],
  [(1153, .iconst 0, 0, 0, 0, []), (1154, .iconst 0, 0, 0, 0, []), (1155, .iconst 0, 0, 0, 0, []), (1156, .iconst 0, 0, 0, 0, []), (1157, .iconst 0, 0, 0, 0, []), (1158, .invokestatic 236, 212, 7, 0, [7012, 7013, 1015, 7014]), (1161, .lastore, 0, 0, 0, []), (1162, .aload_n 0, 0, 0, 0, []), (1163, .getfield 34, 12, 9, 0, [7027]), (1166, .bipush 27, 0, 0, 0, []), (1168, .bipush 97, 0, 0, 0, []), (1170, .bipush 110, 0, 0, 0, []), (1172, .bipush 100, 0, 0, 0, []), (1174, .iconst 0, 0, 0, 0, []), (1175, .iconst 0, 0, 0, 0, []), (1176, .iconst 0, 0, 0, 0, []), (1177, .iconst 0, 0, 0, 0, []), (1178, .invokestatic 236, 212, 7, 0, [7012, 7013, 1015, 7014]), (1181, .lastore, 0, 0, 0, []), (1182, .aload_n 0, 0, 0, 0, []), (1183, .getfield 34, 12, 9, 0, [7027])],
  [(1186, .bipush 28, 0, 0, 0, []), (1188, .bipush 110, 0, 0, 0, []), (1190, .bipush 111, 0, 0, 0, []), (1192, .bipush 116, 0, 0, 0, []), (1194, .iconst 0, 0, 0, 0, []), (1195, .iconst 0, 0, 0, 0, []), (1196, .iconst 0, 0, 0, 0, []), (1197, .iconst 0, 0, 0, 0, []), (1198, .invokestatic 236, 212, 7, 0, [7012, 7013, 1015, 7014]), (1201, .lastore, 0, 0, 0, []), (1202, .aload_n 0, 0, 0, 0, []), (1203, .getfield 34, 12, 9, 0, [7027]), (1206, .bipush 29, 0, 0, 0, []), (1208, .bipush 115, 0, 0, 0, []), (1210, .bipush 101, 0, 0, 0, []), (1212, .bipush 99, 0, 0, 0, []), (1214, .bipush 111, 0, 0, 0, [])],
  [(1216, .bipush 110, 0, 0, 0, []), (1218, .bipush 100, 0, 0, 0, []), (1220, .bipush 115, 0, 0, 0, []), (1222, .invokestatic 236, 212, 7, 0, [7012, 7013, 1015, 7014]), (1225, .lastore, 0, 0, 0, []), (1226, .aload_n 0, 0, 0, 0, []), (1227, .getfield 34, 12, 9, 0, [7027]), (1230, .bipush 30, 0, 0, 0, []), (1232, .bipush 111, 0, 0, 0, []), (1234, .bipush 119, 0, 0, 0, []), (1236, .bipush 110, 0, 0, 0, []), (1238, .bipush 101, 0, 0, 0, []), (1240, .bipush 114, 0, 0, 0, []), (1242, .iconst 0, 0, 0, 0, []), (1243, .iconst 0, 0, 0, 0, []), (1244, .invokestatic 236, 212, 7, 0, [7012, 7013, 1015, 7014]), (1247, .lastore, 0, 0, 0, [])],
  [(1248, .aload_n 0, 0, 0, 0, []), (1249, .getfield 34, 12, 9, 0, [7027]), (1252, .bipush 31, 0, 0, 0, []), (1254, .bipush 108, 0, 0, 0, []), (1256, .bipush 97, 0, 0, 0, []), (1258, .bipush 110, 0, 0, 0, []), (1260, .bipush 100, 0, 0, 0, []), (1262, .iconst 0, 0, 0, 0, []), (1263, .iconst 0, 0, 0, 0, []), (1264, .iconst 0, 0, 0, 0, []), (1265, .invokestatic 236, 212, 7, 0, [7012, 7013, 1015, 7014]), (1268, .lastore, 0, 0, 0, []), (1269, .aload_n 0, 0, 0, 0, []), (1270, .getfield 34, 12, 9, 0, [7027]), (1273, .bipush 32, 0, 0, 0, []), (1275, .bipush 102, 0, 0, 0, []), (1277, .bipush 114, 0, 0, 0, []), (1279, .bipush 97, 0, 0, 0, [])],
  [(1281, .bipush 109, 0, 0, 0, []), (1283, .bipush 101, 0, 0, 0, []), (1285, .bipush 115, 0, 0, 0, []), (1287, .iconst 0, 0, 0, 0, []), (1288, .invokestatic 236, 212, 7, 0, [7012, 7013, 1015, 7014]), (1291, .lastore, 0, 0, 0, []), (1292, .aload_n 0, 0, 0, 0, []), (1293, .getfield 34, 12, 9, 0, [7027]), (1296, .bipush 33, 0, 0, 0, []), (1298, .bipush 104, 0, 0, 0, []), (1300, .bipush 101, 0, 0, 0, []), (1302, .bipush 97, 0, 0, 0, []), (1304, .bipush 114, 0, 0, 0, []), (1306, .bipush 100, 0, 0, 0, []), (1308, .iconst 0, 0, 0, 0, []), (1309, .iconst 0, 0, 0, 0, []), (1310, .invokestatic 236, 212, 7, 0, [7012, 7013, 1015, 7014])],
  [(1313, .lastore, 0, 0, 0, []), (1314, .aload_n 0, 0, 0, 0, []), (1315, .iconst 1, 0, 0, 0, []), (1316, .putfield 240, 12, 60, 0, [7078]), (1319, .aload_n 0, 0, 0, 0, []), (1320, .getfield 137, 12, 61, 0, [7079]), (1323, .iconst 0, 0, 0, 0, []), (1324, .bipush 24, 0, 0, 0, []), (1326, .iastore, 0, 0, 0, []), (1327, .return_, 0, 0, 0, [])]]
def gP205 : List (List gE) := [
  [(0, .aload_n 0, 0, 0, 0, []), (1, .getfield 243, 12, 2, 0, [7020]), (4, .bipush 20, 0, 0, 0, []), (6, .iadd, 0, 0, 0, []), (7, .sipush 2000, 0, 0, 0, []), (10, .if_icmp .le 5, 15, 0, 0, []), (13, .iconst (-1), 0, 0, 0, []), (14, .ireturn, 0, 0, 0, []), (15, .aload_n 0, 0, 0, 0, []), (16, .iload_n 1, 0, 0, 0, []), (17, .invokevirtual 246, 206, 1, 12, [8096, 8098, 134, 1015, 8099]), (20, .aload_n 0, 0, 0, 0, []), (21, .iload_n 2, 0, 0, 0, []), (22, .invokevirtual 246, 206, 1, 12, [8096, 8098, 134, 1015, 8099]), (25, .aload_n 0, 0, 0, 0, []), (26, .iload_n 3, 0, 0, 0, []), (27, .invokevirtual 246, 206, 1, 12, [8096, 8098, 134, 1015, 8099]), (30, .aload_n 0, 0, 0, 0, []), (31, .iload 4, 0, 0, 0, [])],
  [(33, .invokevirtual 246, 206, 1, 12, [8096, 8098, 134, 1015, 8099]), (36, .aload_n 0, 0, 0, 0, []), (37, .iload 5, 0, 0, 0, []), (39, .invokevirtual 246, 206, 1, 12, [8096, 8098, 134, 1015, 8099]), (42, .aload_n 0, 0, 0, 0, []), (43, .getfield 243, 12, 2, 0, [7020]), (46, .ireturn, 0, 0, 0, [])]]
def gP206 : List (List gE) := [
  [(0, .bipush 24, 0, 0, 0, []), (2, .istore_n 2, 0, 0, 0, []), (3, .iload_n 2, 0, 0, 0, []), (4, .ifCond .lt 32, 36, 0, 0, []), (7, .aload_n 0, 0, 0, 0, []), (8, .getfield 13, 12, 1, 0, [7019]), (11, .aload_n 0, 0, 0, 0, []), (12, .getfield 243, 12, 2, 0, [7020]), (15, .iload_n 1, 0, 0, 0, []), (16, .iload_n 2, 0, 0, 0, []), (17, .ishr, 0, 0, 0, []), (18, .i2b, 0, 0, 0, []), (19, .bastore, 0, 0, 0, []), (20, .aload_n 0, 0, 0, 0, []), (21, .dup, 0, 0, 0, []), (22, .getfield 243, 12, 2, 0, [7020]), (25, .iconst 1, 0, 0, 0, []), (26, .iadd, 0, 0, 0, []), (27, .putfield 243, 12, 2, 0, [7020]), (30, .iinc 2 (-8), 0, 0, 0, [])],
  [(33, .goto (-30), 3, 0, 0, []), (36, .return_, 0, 0, 0, [])]]
def gP207 : List (List gE) := [
  [(0, .iload_n 1, 0, 0, 0, []), (1, .ifCond .lt 11, 12, 0, 0, []), (4, .iload_n 1, 0, 0, 0, []), (5, .aload_n 0, 0, 0, 0, []), (6, .getfield 243, 12, 2, 0, [7020]), (9, .if_icmp .le 5, 14, 0, 0, []), (12, .iconst (-1), 0, 0, 0, []), (13, .ireturn, 0, 0, 0, []), (14, .aload_n 0, 0, 0, 0, []), (15, .dup, 0, 0, 0, []), (16, .getfield 243, 12, 2, 0, [7020]), (19, .iload_n 1, 0, 0, 0, []), (20, .isub, 0, 0, 0, []), (21, .putfield 243, 12, 2, 0, [7020]), (24, .aload_n 0, 0, 0, 0, []), (25, .getfield 243, 12, 2, 0, [7020]), (28, .ireturn, 0, 0, 0, [])]]
def gP208 : List (List gE) := [
  [(0, .iload_n 1, 0, 0, 0, []), (1, .aload_n 0, 0, 0, 0, []), (2, .getfield 250, 12, 4, 0, [7022]), (5, .if_icmp .ge 16, 21, 0, 0, []), (8, .aload_n 0, 0, 0, 0, []), (9, .getfield 17, 12, 3, 0, [7021]), (12, .iload_n 1, 0, 0, 0, []), (13, .baload, 0, 0, 0, []), (14, .sipush 255, 0, 0, 0, []), (17, .iand, 0, 0, 0, []), (18, .goto 4, 22, 0, 0, []), (21, .iconst 0, 0, 0, 0, []), (22, .ireturn, 0, 0, 0, [])]]
def gP209 : List (List gE) := [
  [(0, .iload_n 0, 0, 0, 0, []), (1, .bipush 48, 0, 0, 0, []), (3, .if_icmp .lt 13, 16, 0, 0, []), (6, .iload_n 0, 0, 0, 0, []), (7, .bipush 57, 0, 0, 0, []), (9, .if_icmp .gt 7, 16, 0, 0, []), (12, .iconst 1, 0, 0, 0, []), (13, .goto 4, 17, 0, 0, []), (16, .iconst 0, 0, 0, 0, []), (17, .ireturn, 0, 0, 0, [])]]
def gP210 : List (List gE) := [
  [(0, .iload_n 0, 0, 0, 0, []), (1, .bipush 97, 0, 0, 0, []), (3, .if_icmp .lt 13, 16, 0, 0, []), (6, .iload_n 0, 0, 0, 0, []), (7, .bipush 122, 0, 0, 0, []), (9, .if_icmp .gt 7, 16, 0, 0, []), (12, .iconst 1, 0, 0, 0, []), (13, .goto 4, 17, 0, 0, []), (16, .iconst 0, 0, 0, 0, []), (17, .ireturn, 0, 0, 0, [])]]
def gP211 : List (List gE) := [
  [(0, .iload_n 2, 0, 0, 0, []), (1, .ifCond .ne 7, 8, 0, 0, []), (4, .lload_n 0, 0, 0, 0, []), (5, .goto 16, 21, 0, 0, []), (8, .ldc2_w 253, 0, 0, 27, [7018]), (11, .lload_n 0, 0, 0, 0, []), (12, .lmul, 0, 0, 0, []), (13, .iload_n 2, 0, 0, 0, []), (14, .bipush 97, 0, 0, 0, []), (16, .isub, 0, 0, 0, []), (17, .iconst 1, 0, 0, 0, []), (18, .iadd, 0, 0, 0, []), (19, .i2l, 0, 0, 0, []), (20, .ladd, 0, 0, 0, []), (21, .lreturn, 0, 0, 0, [])]]
def gP212 : List (List gE) := [
  [(0, .lconst 0, 0, 0, 0, []), (1, .iload_n 0, 0, 0, 0, []), (2, .invokestatic 255, 211, 2, 0, [7015, 7016, 1015, 7017]), (5, .iload_n 1, 0, 0, 0, []), (6, .invokestatic 255, 211, 2, 0, [7015, 7016, 1015, 7017]), (9, .iload_n 2, 0, 0, 0, []), (10, .invokestatic 255, 211, 2, 0, [7015, 7016, 1015, 7017]), (13, .iload_n 3, 0, 0, 0, []), (14, .invokestatic 255, 211, 2, 0, [7015, 7016, 1015, 7017]), (17, .iload 4, 0, 0, 0, []), (19, .invokestatic 255, 211, 2, 0, [7015, 7016, 1015, 7017]), (22, .iload 5, 0, 0, 0, []), (24, .invokestatic 255, 211, 2, 0, [7015, 7016, 1015, 7017]), (27, .iload 6, 0, 0, 0, []), (29, .invokestatic 255, 211, 2, 0, [7015, 7016, 1015, 7017])],
  [(32, .lreturn, 0, 0, 0, [])]]
def gP213 : List (List gE) := [
  [(0, .aload_n 0, 0, 0, 0, []), (1, .getfield 20, 12, 5, 0, [7023]), (4, .aload_n 0, 0, 0, 0, []), (5, .getfield 259, 12, 10, 0, [7028]), (8, .iload_n 1, 0, 0, 0, []), (9, .iastore, 0, 0, 0, []), (10, .aload_n 0, 0, 0, 0, []), (11, .getfield 24, 12, 6, 0, [7024]), (14, .aload_n 0, 0, 0, 0, []), (15, .getfield 259, 12, 10, 0, [7028]), (18, .iload_n 2, 0, 0, 0, []), (19, .iastore, 0, 0, 0, []), (20, .aload_n 0, 0, 0, 0, []), (21, .getfield 27, 12, 7, 0, [7025]), (24, .aload_n 0, 0, 0, 0, []), (25, .getfield 259, 12, 10, 0, [7028]), (28, .iload_n 3, 0, 0, 0, []), (29, .iastore, 0, 0, 0, []), (30, .aload_n 0, 0, 0, 0, []), (31, .getfield 30, 12, 8, 0, [7026])],
  [(34, .aload_n 0, 0, 0, 0, []), (35, .getfield 259, 12, 10, 0, [7028]), (38, .lload 4, 0, 0, 0, []), (40, .lastore, 0, 0, 0, []), (41, .aload_n 0, 0, 0, 0, []), (42, .dup, 0, 0, 0, []), (43, .getfield 259, 12, 10, 0, [7028]), (46, .iconst 1, 0, 0, 0, []), (47, .iadd, 0, 0, 0, []), (48, .putfield 259, 12, 10, 0, [7028]), (51, .return_, 0, 0, 0, [])]]
def gP214 : List (List gE) := [
  [(0, .aload_n 0, 0, 0, 0, []), (1, .iconst 0, 0, 0, 0, []), (2, .putfield 259, 12, 10, 0, [7028]), (5, .iconst 0, 0, 0, 0, []), (6, .istore_n 1, 0, 0, 0, []), (7, .aload_n 0, 0, 0, 0, []), (8, .getfield 259, 12, 10, 0, [7028]), (11, .sipush 500, 0, 0, 0, []), (14, .if_icmp .gt 280, 294, 0, 0, []), (17, .aload_n 0, 0, 0, 0, []), (18, .iload_n 1, 0, 0, 0, []), (19, .invokevirtual 262, 208, 1, 12, [8112, 8114, 136, 1015, 8115]), (22, .istore_n 2, 0, 0, 0, []), (23, .iload_n 1, 0, 0, 0, []), (24, .aload_n 0, 0, 0, 0, []), (25, .getfield 250, 12, 4, 0, [7022]), (28, .if_icmp .lt 15, 43, 0, 0, []), (31, .aload_n 0, 0, 0, 0, [])],
  [(32, .iconst 0, 0, 0, 0, []), (33, .aload_n 0, 0, 0, 0, []), (34, .getfield 250, 12, 4, 0, [7022]), (37, .iconst 0, 0, 0, 0, []), (38, .lconst 0, 0, 0, 0, []), (39, .invokevirtual 266, 213, 4, 12, [8116, 8118, 137, 1015, 8119]), (42, .return_, 0, 0, 0, []), (43, .iload_n 2, 0, 0, 0, []), (44, .bipush 9, 0, 0, 0, []), (46, .if_icmp .eq 21, 67, 0, 0, []), (49, .iload_n 2, 0, 0, 0, []), (50, .bipush 10, 0, 0, 0, []), (52, .if_icmp .eq 15, 67, 0, 0, []), (55, .iload_n 2, 0, 0, 0, []), (56, .bipush 13, 0, 0, 0, []), (58, .if_icmp .eq 9, 67, 0, 0, []), (61, .iload_n 2, 0, 0, 0, []), (62, .bipush 32, 0, 0, 0, [])],
  [(64, .if_icmp .ne 9, 73, 0, 0, []), (67, .iinc 1 1, 0, 0, 0, []), (70, .goto 221, 291, 0, 0, []), (73, .iload_n 2, 0, 0, 0, []), (74, .invokestatic 270, 210, 1, 0, [8120, 8121, 1015, 8122]), (77, .ifCond .eq 119, 196, 0, 0, []), (80, .iconst 0, 0, 0, 0, []), (81, .istore_n 3, 0, 0, 0, []), (82, .lconst 0, 0, 0, 0, []), (83, .lstore 4, 0, 0, 0, []), (85, .aload_n 0, 0, 0, 0, []), (86, .iload_n 1, 0, 0, 0, []), (87, .iload_n 3, 0, 0, 0, []), (88, .iadd, 0, 0, 0, []), (89, .invokevirtual 262, 208, 1, 12, [8112, 8114, 136, 1015, 8115]), (92, .invokestatic 270, 210, 1, 0, [8120, 8121, 1015, 8122]), (95, .ifCond .eq 29, 124, 0, 0, [])],
  [(98, .iload_n 3, 0, 0, 0, []), (99, .bipush 8, 0, 0, 0, []), (101, .if_icmp .ge 17, 118, 0, 0, []), (104, .lload 4, 0, 0, 0, []), (106, .aload_n 0, 0, 0, 0, []), (107, .iload_n 1, 0, 0, 0, []), (108, .iload_n 3, 0, 0, 0, []), (109, .iadd, 0, 0, 0, []), (110, .invokevirtual 262, 208, 1, 12, [8112, 8114, 136, 1015, 8115]), (113, .invokestatic 255, 211, 2, 0, [7015, 7016, 1015, 7017]), (116, .lstore 4, 0, 0, 0, []), (118, .iinc 3 1, 0, 0, 0, []), (121, .goto (-36), 85, 0, 0, []), (124, .iload_n 3, 0, 0, 0, []), (125, .bipush 8, 0, 0, 0, []), (127, .if_icmp .le 7, 134, 0, 0, [])],
  [(130, .iconst 3, 0, 0, 0, []), (131, .goto 4, 135, 0, 0, []), (134, .iconst 1, 0, 0, 0, []), (135, .istore 6, 0, 0, 0, []), (137, .iload_n 3, 0, 0, 0, []), (138, .bipush 7, 0, 0, 0, []), (140, .if_icmp .gt 39, 179, 0, 0, []), (143, .iconst 0, 0, 0, 0, []), (144, .istore 7, 0, 0, 0, []), (146, .iload 7, 0, 0, 0, []), (148, .bipush 34, 0, 0, 0, []), (150, .if_icmp .ge 29, 179, 0, 0, []), (153, .aload_n 0, 0, 0, 0, []), (154, .getfield 34, 12, 9, 0, [7027]), (157, .iload 7, 0, 0, 0, []), (159, .laload, 0, 0, 0, [])],
  [(160, .lload 4, 0, 0, 0, []), (162, .lcmp, 0, 0, 0, []), (163, .ifCond .ne 10, 173, 0, 0, []), (166, .bipush 20, 0, 0, 0, []), (168, .iload 7, 0, 0, 0, []), (170, .iadd, 0, 0, 0, []), (171, .istore 6, 0, 0, 0, []), (173, .iinc 7 1, 0, 0, 0, []), (176, .goto (-30), 146, 0, 0, []), (179, .aload_n 0, 0, 0, 0, []), (180, .iload 6, 0, 0, 0, []), (182, .iload_n 1, 0, 0, 0, []), (183, .iconst 0, 0, 0, 0, []), (184, .lload 4, 0, 0, 0, []), (186, .invokevirtual 266, 213, 4, 12, [8116, 8118, 137, 1015, 8119]), (189, .iload_n 1, 0, 0, 0, []), (190, .iload_n 3, 0, 0, 0, []), (191, .iadd, 0, 0, 0, [])],
  [(192, .istore_n 1, 0, 0, 0, []), (193, .goto 98, 291, 0, 0, []), (196, .iload_n 2, 0, 0, 0, []), (197, .invokestatic 274, 209, 1, 0, [8123, 8124, 1015, 8125]), (200, .ifCond .eq 75, 275, 0, 0, []), (203, .iconst 0, 0, 0, 0, []), (204, .istore_n 3, 0, 0, 0, []), (205, .iconst 0, 0, 0, 0, []), (206, .istore 4, 0, 0, 0, []), (208, .aload_n 0, 0, 0, 0, []), (209, .iload_n 1, 0, 0, 0, []), (210, .iload_n 3, 0, 0, 0, []), (211, .iadd, 0, 0, 0, []), (212, .invokevirtual 262, 208, 1, 12, [8112, 8114, 136, 1015, 8115]), (215, .invokestatic 274, 209, 1, 0, [8123, 8124, 1015, 8125]), (218, .ifCond .eq 32, 250, 0, 0, []), (221, .iload_n 3, 0, 0, 0, []), (222, .iconst 4, 0, 0, 0, []), (223, .if_icmp .ge 21, 244, 0, 0, [])],
  [(226, .bipush 10, 0, 0, 0, []), (228, .iload 4, 0, 0, 0, []), (230, .imul, 0, 0, 0, []), (231, .aload_n 0, 0, 0, 0, []), (232, .iload_n 1, 0, 0, 0, []), (233, .iload_n 3, 0, 0, 0, []), (234, .iadd, 0, 0, 0, []), (235, .invokevirtual 262, 208, 1, 12, [8112, 8114, 136, 1015, 8115]), (238, .iadd, 0, 0, 0, []), (239, .bipush 48, 0, 0, 0, []), (241, .isub, 0, 0, 0, []), (242, .istore 4, 0, 0, 0, []), (244, .iinc 3 1, 0, 0, 0, []), (247, .goto (-39), 208, 0, 0, []), (250, .aload_n 0, 0, 0, 0, []), (251, .iload_n 3, 0, 0, 0, []), (252, .iconst 4, 0, 0, 0, []), (253, .if_icmp .le 7, 260, 0, 0, [])],
  [(256, .iconst 3, 0, 0, 0, []), (257, .goto 4, 261, 0, 0, []), (260, .iconst 2, 0, 0, 0, []), (261, .iload_n 1, 0, 0, 0, []), (262, .iload 4, 0, 0, 0, []), (264, .lconst 0, 0, 0, 0, []), (265, .invokevirtual 266, 213, 4, 12, [8116, 8118, 137, 1015, 8119]), (268, .iload_n 1, 0, 0, 0, []), (269, .iload_n 3, 0, 0, 0, []), (270, .iadd, 0, 0, 0, []), (271, .istore_n 1, 0, 0, 0, []), (272, .goto 19, 291, 0, 0, []), (275, .iload_n 1, 0, 0, 0, []), (276, .aload_n 0, 0, 0, 0, []), (277, .iload_n 1, 0, 0, 0, []), (278, .iload_n 2, 0, 0, 0, []), (279, .aload_n 0, 0, 0, 0, []), (280, .iload_n 1, 0, 0, 0, []), (281, .iconst 1, 0, 0, 0, []), (282, .iadd, 0, 0, 0, []), (283, .invokevirtual 262, 208, 1, 12, [8112, 8114, 136, 1015, 8115]), (286, .invokevirtual 277, 215, 3, 12, [8126, 8128, 138, 1015, 8129])],
  [(289, .iadd, 0, 0, 0, []), (290, .istore_n 1, 0, 0, 0, []), (291, .goto (-284), 7, 0, 0, []), (294, .return_, 0, 0, 0, [])]]
def gP215 : List (List gE) := [
  [(0, .iload_n 3, 0, 0, 0, []), (1, .bipush 61, 0, 0, 0, []), (3, .if_icmp .eq 7, 10, 0, 0, []), (6, .iconst 0, 0, 0, 0, []), (7, .goto 37, 44, 0, 0, []), (10, .iload_n 2, 0, 0, 0, []), (11, .bipush 61, 0, 0, 0, []), (13, .if_icmp .ne 8, 21, 0, 0, []), (16, .bipush 11, 0, 0, 0, []), (18, .goto 26, 44, 0, 0, []), (21, .iload_n 2, 0, 0, 0, []), (22, .bipush 33, 0, 0, 0, []), (24, .if_icmp .ne 8, 32, 0, 0, []), (27, .bipush 12, 0, 0, 0, []), (29, .goto 15, 44, 0, 0, [])],
  [(32, .iload_n 2, 0, 0, 0, []), (33, .bipush 60, 0, 0, 0, []), (35, .if_icmp .ne 8, 43, 0, 0, []), (38, .bipush 14, 0, 0, 0, []), (40, .goto 4, 44, 0, 0, []), (43, .iconst 0, 0, 0, 0, []), (44, .istore 4, 0, 0, 0, []), (46, .iconst 3, 0, 0, 0, []), (47, .istore 5, 0, 0, 0, []), (49, .iload 4, 0, 0, 0, []), (51, .ifCond .le 10, 61, 0, 0, []), (54, .iload 4, 0, 0, 0, []), (56, .istore 5, 0, 0, 0, []), (58, .goto 115, 173, 0, 0, []), (61, .iload_n 2, 0, 0, 0, []), (62, .bipush 59, 0, 0, 0, [])],
  [(64, .if_icmp .ne 9, 73, 0, 0, []), (67, .iconst 4, 0, 0, 0, []), (68, .istore 5, 0, 0, 0, []), (70, .goto 103, 173, 0, 0, []), (73, .iload_n 2, 0, 0, 0, []), (74, .bipush 40, 0, 0, 0, []), (76, .if_icmp .ne 10, 86, 0, 0, []), (79, .bipush 6, 0, 0, 0, []), (81, .istore 5, 0, 0, 0, []), (83, .goto 90, 173, 0, 0, []), (86, .iload_n 2, 0, 0, 0, []), (87, .bipush 41, 0, 0, 0, []), (89, .if_icmp .ne 10, 99, 0, 0, []), (92, .bipush 7, 0, 0, 0, []), (94, .istore 5, 0, 0, 0, [])],
  [(96, .goto 77, 173, 0, 0, []), (99, .iload_n 2, 0, 0, 0, []), (100, .bipush 43, 0, 0, 0, []), (102, .if_icmp .ne 10, 112, 0, 0, []), (105, .bipush 8, 0, 0, 0, []), (107, .istore 5, 0, 0, 0, []), (109, .goto 64, 173, 0, 0, []), (112, .iload_n 2, 0, 0, 0, []), (113, .bipush 45, 0, 0, 0, []), (115, .if_icmp .ne 10, 125, 0, 0, []), (118, .bipush 9, 0, 0, 0, []), (120, .istore 5, 0, 0, 0, []), (122, .goto 51, 173, 0, 0, []), (125, .iload_n 2, 0, 0, 0, []), (126, .bipush 42, 0, 0, 0, [])],
  [(128, .if_icmp .ne 10, 138, 0, 0, []), (131, .bipush 10, 0, 0, 0, []), (133, .istore 5, 0, 0, 0, []), (135, .goto 38, 173, 0, 0, []), (138, .iload_n 2, 0, 0, 0, []), (139, .bipush 60, 0, 0, 0, []), (141, .if_icmp .ne 10, 151, 0, 0, []), (144, .bipush 13, 0, 0, 0, []), (146, .istore 5, 0, 0, 0, []), (148, .goto 25, 173, 0, 0, []), (151, .iload_n 2, 0, 0, 0, []), (152, .bipush 44, 0, 0, 0, []), (154, .if_icmp .ne 9, 163, 0, 0, []), (157, .iconst 5, 0, 0, 0, []), (158, .istore 5, 0, 0, 0, [])],
  [(160, .goto 13, 173, 0, 0, []), (163, .iload_n 2, 0, 0, 0, []), (164, .bipush 47, 0, 0, 0, []), (166, .if_icmp .ne 7, 173, 0, 0, []), (169, .bipush 15, 0, 0, 0, []), (171, .istore 5, 0, 0, 0, []), (173, .aload_n 0, 0, 0, 0, []), (174, .iload 5, 0, 0, 0, []), (176, .iload_n 1, 0, 0, 0, []), (177, .iconst 0, 0, 0, 0, []), (178, .lconst 0, 0, 0, 0, []), (179, .invokevirtual 266, 213, 4, 12, [8116, 8118, 137, 1015, 8119]), (182, .iload 4, 0, 0, 0, []), (184, .ifCond .le 7, 191, 0, 0, []), (187, .iconst 2, 0, 0, 0, []), (188, .goto 4, 192, 0, 0, []), (191, .iconst 1, 0, 0, 0, [])],
  [(192, .ireturn, 0, 0, 0, [])]]
def gP216 : List (List gE) := [
  [(0, .aload_n 0, 0, 0, 0, []), (1, .getfield 281, 12, 13, 0, [7031]), (4, .ifCond .ne 20, 24, 0, 0, []), (7, .aload_n 0, 0, 0, 0, []), (8, .getfield 20, 12, 5, 0, [7023]), (11, .aload_n 0, 0, 0, 0, []), (12, .getfield 284, 12, 11, 0, [7029]), (15, .iaload, 0, 0, 0, []), (16, .iload_n 1, 0, 0, 0, []), (17, .if_icmp .ne 7, 24, 0, 0, []), (20, .iconst 1, 0, 0, 0, []), (21, .goto 4, 25, 0, 0, []), (24, .iconst 0, 0, 0, 0, []), (25, .ireturn, 0, 0, 0, [])]]
def gP217 : List (List gE) := [
  [(0, .aload_n 0, 0, 0, 0, []), (1, .getfield 281, 12, 13, 0, [7031]), (4, .ifCond .le 4, 8, 0, 0, []), (7, .return_, 0, 0, 0, []), (8, .aload_n 0, 0, 0, 0, []), (9, .iload_n 1, 0, 0, 0, []), (10, .putfield 281, 12, 13, 0, [7031]), (13, .aload_n 0, 0, 0, 0, []), (14, .aload_n 0, 0, 0, 0, []), (15, .getfield 24, 12, 6, 0, [7024]), (18, .aload_n 0, 0, 0, 0, []), (19, .getfield 284, 12, 11, 0, [7029]), (22, .iaload, 0, 0, 0, []), (23, .putfield 287, 12, 14, 0, [7032]), (26, .return_, 0, 0, 0, [])]]
def gP218 : List (List gE) := [
  [(0, .aload_n 0, 0, 0, 0, []), (1, .getfield 24, 12, 6, 0, [7024]), (4, .iload_n 2, 0, 0, 0, []), (5, .iaload, 0, 0, 0, []), (6, .istore_n 3, 0, 0, 0, []), (7, .aload_n 0, 0, 0, 0, []), (8, .getfield 281, 12, 13, 0, [7031]), (11, .ifCond .gt 34, 45, 0, 0, []), (14, .aload_n 0, 0, 0, 0, []), (15, .getfield 290, 12, 15, 0, [7033]), (18, .ifCond .eq 28, 46, 0, 0, []), (21, .iload_n 3, 0, 0, 0, []), (22, .aload_n 0, 0, 0, 0, []), (23, .getfield 293, 12, 16, 0, [7034]), (26, .if_icmp .gt 19, 45, 0, 0, []), (29, .iload_n 3, 0, 0, 0, []), (30, .aload_n 0, 0, 0, 0, []), (31, .getfield 293, 12, 16, 0, [7034])],
  [(34, .if_icmp .ne 12, 46, 0, 0, []), (37, .iload_n 1, 0, 0, 0, []), (38, .aload_n 0, 0, 0, 0, []), (39, .getfield 290, 12, 15, 0, [7033]), (42, .if_icmp .lt 4, 46, 0, 0, []), (45, .return_, 0, 0, 0, []), (46, .aload_n 0, 0, 0, 0, []), (47, .iload_n 1, 0, 0, 0, []), (48, .putfield 290, 12, 15, 0, [7033]), (51, .aload_n 0, 0, 0, 0, []), (52, .iload_n 3, 0, 0, 0, []), (53, .putfield 293, 12, 16, 0, [7034]), (56, .return_, 0, 0, 0, [])]]
def gP219 : List (List gE) := [
  [(0, .aload_n 0, 0, 0, 0, []), (1, .getfield 284, 12, 11, 0, [7029]), (4, .sipush 500, 0, 0, 0, []), (7, .if_icmp .ne 11, 18, 0, 0, []), (10, .aload_n 0, 0, 0, 0, []), (11, .iconst 2, 0, 0, 0, []), (12, .invokevirtual 296, 217, 1, 12, [8142, 8144, 142, 1015, 8145]), (15, .goto 13, 28, 0, 0, []), (18, .aload_n 0, 0, 0, 0, []), (19, .dup, 0, 0, 0, []), (20, .getfield 284, 12, 11, 0, [7029]), (23, .iconst 1, 0, 0, 0, []), (24, .iadd, 0, 0, 0, []), (25, .putfield 284, 12, 11, 0, [7029]), (28, .return_, 0, 0, 0, [])]]
def gP220 : List (List gE) := [
  [(0, .aload_n 0, 0, 0, 0, []), (1, .iload_n 1, 0, 0, 0, []), (2, .invokevirtual 299, 216, 1, 12, [8130, 8132, 139, 1015, 8133]), (5, .ifCond .eq 10, 15, 0, 0, []), (8, .aload_n 0, 0, 0, 0, []), (9, .invokevirtual 302, 219, 0, 12, [8138, 8140, 141, 1015, 8141]), (12, .goto 8, 20, 0, 0, []), (15, .aload_n 0, 0, 0, 0, []), (16, .iconst 1, 0, 0, 0, []), (17, .invokevirtual 296, 217, 1, 12, [8142, 8144, 142, 1015, 8145]), (20, .return_, 0, 0, 0, [])]]
def gP221 : List (List gE) := [
  [(0, .aload_n 0, 0, 0, 0, []), (1, .getfield 305, 12, 18, 0, [7036]), (4, .bipush 8, 0, 0, 0, []), (6, .if_icmp .ne 6, 12, 0, 0, []), (9, .bipush (-2), 0, 0, 0, []), (11, .ireturn, 0, 0, 0, []), (12, .aload_n 0, 0, 0, 0, []), (13, .aload_n 0, 0, 0, 0, []), (14, .getfield 243, 12, 2, 0, [7020]), (17, .putfield 250, 12, 4, 0, [7022]), (20, .iconst 0, 0, 0, 0, []), (21, .istore_n 1, 0, 0, 0, []), (22, .iload_n 1, 0, 0, 0, []), (23, .aload_n 0, 0, 0, 0, []), (24, .getfield 250, 12, 4, 0, [7022]), (27, .if_icmp .ge 21, 48, 0, 0, []), (30, .aload_n 0, 0, 0, 0, []), (31, .getfield 17, 12, 3, 0, [7021])],
  [(34, .iload_n 1, 0, 0, 0, []), (35, .aload_n 0, 0, 0, 0, []), (36, .getfield 13, 12, 1, 0, [7019]), (39, .iload_n 1, 0, 0, 0, []), (40, .baload, 0, 0, 0, []), (41, .bastore, 0, 0, 0, []), (42, .iinc 1 1, 0, 0, 0, []), (45, .goto (-23), 22, 0, 0, []), (48, .aload_n 0, 0, 0, 0, []), (49, .iconst 0, 0, 0, 0, []), (50, .putfield 243, 12, 2, 0, [7020]), (53, .aload_n 0, 0, 0, 0, []), (54, .invokevirtual 308, 214, 0, 12, [8108, 8110, 135, 1015, 8111]), (57, .aload_n 0, 0, 0, 0, []), (58, .iconst 0, 0, 0, 0, []), (59, .putfield 284, 12, 11, 0, [7029]), (62, .aload_n 0, 0, 0, 0, []), (63, .iconst 0, 0, 0, 0, [])],
  [(64, .putfield 311, 12, 12, 0, [7030]), (67, .aload_n 0, 0, 0, 0, []), (68, .iconst 0, 0, 0, 0, []), (69, .putfield 281, 12, 13, 0, [7031]), (72, .aload_n 0, 0, 0, 0, []), (73, .iconst 0, 0, 0, 0, []), (74, .putfield 290, 12, 15, 0, [7033]), (77, .aload_n 0, 0, 0, 0, []), (78, .aload_n 0, 0, 0, 0, []), (79, .getfield 305, 12, 18, 0, [7036]), (82, .putfield 314, 12, 32, 0, [7050]), (85, .aload_n 0, 0, 0, 0, []), (86, .iconst 1, 0, 0, 0, []), (87, .aload_n 0, 0, 0, 0, []), (88, .getfield 317, 12, 34, 0, [7052]), (91, .isub, 0, 0, 0, []), (92, .putfield 320, 12, 35, 0, [7053]), (95, .aload_n 0, 0, 0, 0, [])],
  [(96, .bipush 23, 0, 0, 0, []), (98, .invokevirtual 299, 216, 1, 12, [8130, 8132, 139, 1015, 8133]), (101, .istore_n 1, 0, 0, 0, []), (102, .iload_n 1, 0, 0, 0, []), (103, .ifCond .eq 10, 113, 0, 0, []), (106, .aload_n 0, 0, 0, 0, []), (107, .invokevirtual 323, 231, 0, 12, [8134, 8136, 140, 1015, 8137]), (110, .goto 7, 117, 0, 0, []), (113, .aload_n 0, 0, 0, 0, []), (114, .invokevirtual 326, 224, 0, 12, [8182, 8184, 152, 1015, 8185]), (117, .aload_n 0, 0, 0, 0, []), (118, .getfield 281, 12, 13, 0, [7031]), (121, .ifCond .ne 16, 137, 0, 0, []), (124, .aload_n 0, 0, 0, 0, []), (125, .iconst 0, 0, 0, 0, []), (126, .invokevirtual 299, 216, 1, 12, [8130, 8132, 139, 1015, 8133])],
  [(129, .ifCond .ne 8, 137, 0, 0, []), (132, .aload_n 0, 0, 0, 0, []), (133, .iconst 1, 0, 0, 0, []), (134, .invokevirtual 296, 217, 1, 12, [8142, 8144, 142, 1015, 8145]), (137, .aload_n 0, 0, 0, 0, []), (138, .aload_n 0, 0, 0, 0, []), (139, .getfield 281, 12, 13, 0, [7031]), (142, .ifCond .le 10, 152, 0, 0, []), (145, .aload_n 0, 0, 0, 0, []), (146, .getfield 287, 12, 14, 0, [7032]), (149, .goto 18, 167, 0, 0, []), (152, .aload_n 0, 0, 0, 0, []), (153, .getfield 290, 12, 15, 0, [7033]), (156, .ifCond .le 10, 166, 0, 0, []), (159, .aload_n 0, 0, 0, 0, [])],
  [(160, .getfield 293, 12, 16, 0, [7034]), (163, .goto 4, 167, 0, 0, []), (166, .iconst (-1), 0, 0, 0, []), (167, .putfield 37, 12, 17, 0, [7035]), (170, .aload_n 0, 0, 0, 0, []), (171, .getfield 281, 12, 13, 0, [7031]), (174, .ifCond .le 8, 182, 0, 0, []), (177, .aload_n 0, 0, 0, 0, []), (178, .getfield 281, 12, 13, 0, [7031]), (181, .ireturn, 0, 0, 0, []), (182, .aload_n 0, 0, 0, 0, []), (183, .getfield 290, 12, 15, 0, [7033]), (186, .ifCond .le 8, 194, 0, 0, []), (189, .aload_n 0, 0, 0, 0, []), (190, .getfield 290, 12, 15, 0, [7033])],
  [(193, .ireturn, 0, 0, 0, []), (194, .iload_n 1, 0, 0, 0, []), (195, .ifCond .eq 14, 209, 0, 0, []), (198, .aload_n 0, 0, 0, 0, []), (199, .aload_n 0, 0, 0, 0, []), (200, .getfield 320, 12, 35, 0, [7053]), (203, .putfield 317, 12, 34, 0, [7052]), (206, .goto 28, 234, 0, 0, []), (209, .aload_n 0, 0, 0, 0, []), (210, .getfield 40, 12, 19, 0, [7037]), (213, .aload_n 0, 0, 0, 0, []), (214, .getfield 305, 12, 18, 0, [7036]), (217, .aload_n 0, 0, 0, 0, []), (218, .getfield 240, 12, 60, 0, [7078]), (221, .iconst 1, 0, 0, 0, []), (222, .isub, 0, 0, 0, []), (223, .iastore, 0, 0, 0, [])],
  [(224, .aload_n 0, 0, 0, 0, []), (225, .dup, 0, 0, 0, []), (226, .getfield 305, 12, 18, 0, [7036]), (229, .iconst 1, 0, 0, 0, []), (230, .iadd, 0, 0, 0, []), (231, .putfield 305, 12, 18, 0, [7036]), (234, .iconst 0, 0, 0, 0, []), (235, .ireturn, 0, 0, 0, [])]]
def gP222 : List (List gE) := [
  [(0, .aload_n 0, 0, 0, 0, []), (1, .getfield 37, 12, 17, 0, [7035]), (4, .ireturn, 0, 0, 0, [])]]
def gP223 : List (List gE) := [
  [(0, .aload_n 0, 0, 0, 0, []), (1, .getfield 284, 12, 11, 0, [7029]), (4, .istore_n 3, 0, 0, 0, []), (5, .aload_n 0, 0, 0, 0, []), (6, .iconst 2, 0, 0, 0, []), (7, .invokevirtual 299, 216, 1, 12, [8130, 8132, 139, 1015, 8133]), (10, .ifCond .eq 15, 25, 0, 0, []), (13, .aload_n 0, 0, 0, 0, []), (14, .getfield 27, 12, 7, 0, [7025]), (17, .aload_n 0, 0, 0, 0, []), (18, .getfield 284, 12, 11, 0, [7029]), (21, .iaload, 0, 0, 0, []), (22, .goto 4, 26, 0, 0, []), (25, .iconst 0, 0, 0, 0, []), (26, .istore 4, 0, 0, 0, []), (28, .aload_n 0, 0, 0, 0, []), (29, .iconst 2, 0, 0, 0, []), (30, .invokevirtual 329, 220, 1, 12, [8154, 8156, 145, 1015, 8157])],
  [(33, .aload_n 0, 0, 0, 0, []), (34, .getfield 281, 12, 13, 0, [7031]), (37, .ifCond .ne 21, 58, 0, 0, []), (40, .iload 4, 0, 0, 0, []), (42, .iload_n 1, 0, 0, 0, []), (43, .if_icmp .lt 9, 52, 0, 0, []), (46, .iload 4, 0, 0, 0, []), (48, .iload_n 2, 0, 0, 0, []), (49, .if_icmp .le 9, 58, 0, 0, []), (52, .aload_n 0, 0, 0, 0, []), (53, .iconst 5, 0, 0, 0, []), (54, .iload_n 3, 0, 0, 0, []), (55, .invokevirtual 332, 218, 2, 12, [8158, 8160, 146, 1015, 8161]), (58, .iload 4, 0, 0, 0, []), (60, .ireturn, 0, 0, 0, [])]]
def gP224 : List (List gE) := [
  [(0, .aload_n 0, 0, 0, 0, []), (1, .getfield 43, 12, 20, 0, [7038]), (4, .aload_n 0, 0, 0, 0, []), (5, .getfield 314, 12, 32, 0, [7050]), (8, .iconst 0, 0, 0, 0, []), (9, .iastore, 0, 0, 0, []), (10, .aload_n 0, 0, 0, 0, []), (11, .bipush 20, 0, 0, 0, []), (13, .invokevirtual 299, 216, 1, 12, [8130, 8132, 139, 1015, 8133]), (16, .ifCond .eq 10, 26, 0, 0, []), (19, .aload_n 0, 0, 0, 0, []), (20, .invokevirtual 336, 225, 0, 12, [8186, 8188, 153, 1015, 8189]), (23, .goto (-13), 10, 0, 0, []), (26, .aload_n 0, 0, 0, 0, []), (27, .getfield 284, 12, 11, 0, [7029]), (30, .istore_n 1, 0, 0, 0, []), (31, .aload_n 0, 0, 0, 0, [])],
  [(32, .bipush 22, 0, 0, 0, []), (34, .invokevirtual 329, 220, 1, 12, [8154, 8156, 145, 1015, 8157]), (37, .aload_n 0, 0, 0, 0, []), (38, .bipush 7, 0, 0, 0, []), (40, .aload_n 0, 0, 0, 0, []), (41, .getfield 314, 12, 32, 0, [7050]), (44, .imul, 0, 0, 0, []), (45, .bipush 6, 0, 0, 0, []), (47, .iadd, 0, 0, 0, []), (48, .putfield 339, 12, 33, 0, [7051]), (51, .aload_n 0, 0, 0, 0, []), (52, .invokevirtual 342, 226, 0, 12, [8190, 8192, 154, 1015, 8193]), (55, .aload_n 0, 0, 0, 0, []), (56, .getfield 281, 12, 13, 0, [7031]), (59, .ifCond .ne 31, 90, 0, 0, []), (62, .aload_n 0, 0, 0, 0, []), (63, .getfield 290, 12, 15, 0, [7033])],
  [(66, .ifCond .ne 24, 90, 0, 0, []), (69, .aload_n 0, 0, 0, 0, []), (70, .getfield 52, 12, 23, 0, [7041]), (73, .aload_n 0, 0, 0, 0, []), (74, .getfield 339, 12, 33, 0, [7051]), (77, .iaload, 0, 0, 0, []), (78, .bipush 40, 0, 0, 0, []), (80, .if_icmp .le 10, 90, 0, 0, []), (83, .aload_n 0, 0, 0, 0, []), (84, .bipush 6, 0, 0, 0, []), (86, .iload_n 1, 0, 0, 0, []), (87, .invokevirtual 332, 218, 2, 12, [8158, 8160, 146, 1015, 8161]), (90, .return_, 0, 0, 0, [])]]
def gP225 : List (List gE) := [
  [(0, .aload_n 0, 0, 0, 0, []), (1, .getfield 43, 12, 20, 0, [7038]), (4, .aload_n 0, 0, 0, 0, []), (5, .getfield 314, 12, 32, 0, [7050]), (8, .iaload, 0, 0, 0, []), (9, .bipush 6, 0, 0, 0, []), (11, .if_icmp .ne 8, 19, 0, 0, []), (14, .aload_n 0, 0, 0, 0, []), (15, .iconst 2, 0, 0, 0, []), (16, .invokevirtual 296, 217, 1, 12, [8142, 8144, 142, 1015, 8145]), (19, .aload_n 0, 0, 0, 0, []), (20, .invokevirtual 302, 219, 0, 12, [8138, 8140, 141, 1015, 8141]), (23, .aload_n 0, 0, 0, 0, []), (24, .getfield 284, 12, 11, 0, [7029]), (27, .istore_n 1, 0, 0, 0, []), (28, .aload_n 0, 0, 0, 0, []), (29, .iconst 1, 0, 0, 0, []), (30, .invokevirtual 329, 220, 1, 12, [8154, 8156, 145, 1015, 8157])],
  [(33, .aload_n 0, 0, 0, 0, []), (34, .getfield 281, 12, 13, 0, [7031]), (37, .ifCond .le 4, 41, 0, 0, []), (40, .return_, 0, 0, 0, []), (41, .iconst 0, 0, 0, 0, []), (42, .istore_n 2, 0, 0, 0, []), (43, .iload_n 2, 0, 0, 0, []), (44, .aload_n 0, 0, 0, 0, []), (45, .getfield 43, 12, 20, 0, [7038]), (48, .aload_n 0, 0, 0, 0, []), (49, .getfield 314, 12, 32, 0, [7050]), (52, .iaload, 0, 0, 0, []), (53, .if_icmp .ge 39, 92, 0, 0, []), (56, .aload_n 0, 0, 0, 0, []), (57, .getfield 46, 12, 21, 0, [7039]), (60, .bipush 6, 0, 0, 0, []), (62, .aload_n 0, 0, 0, 0, []), (63, .getfield 314, 12, 32, 0, [7050])],
  [(66, .imul, 0, 0, 0, []), (67, .iload_n 2, 0, 0, 0, []), (68, .iadd, 0, 0, 0, []), (69, .laload, 0, 0, 0, []), (70, .aload_n 0, 0, 0, 0, []), (71, .getfield 30, 12, 8, 0, [7026]), (74, .iload_n 1, 0, 0, 0, []), (75, .laload, 0, 0, 0, []), (76, .lcmp, 0, 0, 0, []), (77, .ifCond .ne 9, 86, 0, 0, []), (80, .aload_n 0, 0, 0, 0, []), (81, .iconst 3, 0, 0, 0, []), (82, .iload_n 1, 0, 0, 0, []), (83, .invokevirtual 332, 218, 2, 12, [8158, 8160, 146, 1015, 8161]), (86, .iinc 2 1, 0, 0, 0, []), (89, .goto (-46), 43, 0, 0, []), (92, .aload_n 0, 0, 0, 0, []), (93, .getfield 46, 12, 21, 0, [7039])],
  [(96, .bipush 6, 0, 0, 0, []), (98, .aload_n 0, 0, 0, 0, []), (99, .getfield 314, 12, 32, 0, [7050]), (102, .imul, 0, 0, 0, []), (103, .aload_n 0, 0, 0, 0, []), (104, .getfield 43, 12, 20, 0, [7038]), (107, .aload_n 0, 0, 0, 0, []), (108, .getfield 314, 12, 32, 0, [7050]), (111, .iaload, 0, 0, 0, []), (112, .iadd, 0, 0, 0, []), (113, .aload_n 0, 0, 0, 0, []), (114, .getfield 30, 12, 8, 0, [7026]), (117, .iload_n 1, 0, 0, 0, []), (118, .laload, 0, 0, 0, []), (119, .lastore, 0, 0, 0, []), (120, .aload_n 0, 0, 0, 0, []), (121, .bipush 7, 0, 0, 0, []), (123, .aload_n 0, 0, 0, 0, []), (124, .getfield 314, 12, 32, 0, [7050]), (127, .imul, 0, 0, 0, [])],
  [(128, .aload_n 0, 0, 0, 0, []), (129, .getfield 43, 12, 20, 0, [7038]), (132, .aload_n 0, 0, 0, 0, []), (133, .getfield 314, 12, 32, 0, [7050]), (136, .iaload, 0, 0, 0, []), (137, .iadd, 0, 0, 0, []), (138, .putfield 339, 12, 33, 0, [7051]), (141, .aload_n 0, 0, 0, 0, []), (142, .invokevirtual 342, 226, 0, 12, [8190, 8192, 154, 1015, 8193]), (145, .aload_n 0, 0, 0, 0, []), (146, .getfield 43, 12, 20, 0, [7038]), (149, .aload_n 0, 0, 0, 0, []), (150, .getfield 314, 12, 32, 0, [7050]), (153, .dup2, 0, 0, 0, []), (154, .iaload, 0, 0, 0, []), (155, .iconst 1, 0, 0, 0, []), (156, .iadd, 0, 0, 0, []), (157, .iastore, 0, 0, 0, []), (158, .return_, 0, 0, 0, [])]]
def gP226 : List (List gE) := [
  [(0, .aload_n 0, 0, 0, 0, []), (1, .getfield 49, 12, 22, 0, [7040]), (4, .aload_n 0, 0, 0, 0, []), (5, .getfield 339, 12, 33, 0, [7051]), (8, .iconst 0, 0, 0, 0, []), (9, .iastore, 0, 0, 0, []), (10, .aload_n 0, 0, 0, 0, []), (11, .getfield 52, 12, 23, 0, [7041]), (14, .aload_n 0, 0, 0, 0, []), (15, .getfield 339, 12, 33, 0, [7051]), (18, .iconst 0, 0, 0, 0, []), (19, .iastore, 0, 0, 0, []), (20, .aload_n 0, 0, 0, 0, []), (21, .getfield 281, 12, 13, 0, [7031]), (24, .ifCond .ne 19, 43, 0, 0, []), (27, .aload_n 0, 0, 0, 0, []), (28, .bipush 21, 0, 0, 0, []), (30, .invokevirtual 299, 216, 1, 12, [8130, 8132, 139, 1015, 8133])],
  [(33, .ifCond .ne 10, 43, 0, 0, []), (36, .aload_n 0, 0, 0, 0, []), (37, .invokevirtual 345, 227, 0, 12, [8194, 8196, 155, 1015, 8197]), (40, .goto (-20), 20, 0, 0, []), (43, .aload_n 0, 0, 0, 0, []), (44, .bipush 21, 0, 0, 0, []), (46, .invokevirtual 329, 220, 1, 12, [8154, 8156, 145, 1015, 8157]), (49, .return_, 0, 0, 0, [])]]
def gP227 : List (List gE) := [
  [(0, .aload_n 0, 0, 0, 0, []), (1, .bipush 24, 0, 0, 0, []), (3, .invokevirtual 299, 216, 1, 12, [8130, 8132, 139, 1015, 8133]), (6, .ifCond .eq 7, 13, 0, 0, []), (9, .iconst 0, 0, 0, 0, []), (10, .goto 69, 79, 0, 0, []), (13, .aload_n 0, 0, 0, 0, []), (14, .bipush 31, 0, 0, 0, []), (16, .invokevirtual 299, 216, 1, 12, [8130, 8132, 139, 1015, 8133]), (19, .ifCond .eq 7, 26, 0, 0, []), (22, .iconst 1, 0, 0, 0, []), (23, .goto 56, 79, 0, 0, []), (26, .aload_n 0, 0, 0, 0, []), (27, .bipush 33, 0, 0, 0, []), (29, .invokevirtual 299, 216, 1, 12, [8130, 8132, 139, 1015, 8133])],
  [(32, .ifCond .eq 7, 39, 0, 0, []), (35, .iconst 2, 0, 0, 0, []), (36, .goto 43, 79, 0, 0, []), (39, .aload_n 0, 0, 0, 0, []), (40, .bipush 37, 0, 0, 0, []), (42, .invokevirtual 299, 216, 1, 12, [8130, 8132, 139, 1015, 8133]), (45, .ifCond .eq 7, 52, 0, 0, []), (48, .iconst 3, 0, 0, 0, []), (49, .goto 30, 79, 0, 0, []), (52, .aload_n 0, 0, 0, 0, []), (53, .bipush 39, 0, 0, 0, []), (55, .invokevirtual 299, 216, 1, 12, [8130, 8132, 139, 1015, 8133]), (58, .ifCond .eq 7, 65, 0, 0, []), (61, .iconst 4, 0, 0, 0, []), (62, .goto 17, 79, 0, 0, [])],
  [(65, .aload_n 0, 0, 0, 0, []), (66, .bipush 40, 0, 0, 0, []), (68, .invokevirtual 299, 216, 1, 12, [8130, 8132, 139, 1015, 8133]), (71, .ifCond .eq 7, 78, 0, 0, []), (74, .iconst 5, 0, 0, 0, []), (75, .goto 4, 79, 0, 0, []), (78, .iconst (-1), 0, 0, 0, []), (79, .istore_n 1, 0, 0, 0, []), (80, .iload_n 1, 0, 0, 0, []), (81, .iconst (-1), 0, 0, 0, []), (82, .if_icmp .ne 11, 93, 0, 0, []), (85, .aload_n 0, 0, 0, 0, []), (86, .iconst 1, 0, 0, 0, []), (87, .invokevirtual 296, 217, 1, 12, [8142, 8144, 142, 1015, 8145]), (90, .goto 22, 112, 0, 0, []), (93, .aload_n 0, 0, 0, 0, []), (94, .getfield 49, 12, 22, 0, [7040])],
  [(97, .aload_n 0, 0, 0, 0, []), (98, .getfield 339, 12, 33, 0, [7051]), (101, .iaload, 0, 0, 0, []), (102, .bipush 16, 0, 0, 0, []), (104, .if_icmp .ne 8, 112, 0, 0, []), (107, .aload_n 0, 0, 0, 0, []), (108, .iconst 2, 0, 0, 0, []), (109, .invokevirtual 296, 217, 1, 12, [8142, 8144, 142, 1015, 8145]), (112, .aload_n 0, 0, 0, 0, []), (113, .getfield 281, 12, 13, 0, [7031]), (116, .ifCond .le 4, 120, 0, 0, []), (119, .return_, 0, 0, 0, []), (120, .bipush 16, 0, 0, 0, []), (122, .aload_n 0, 0, 0, 0, []), (123, .getfield 339, 12, 33, 0, [7051]), (126, .imul, 0, 0, 0, []), (127, .aload_n 0, 0, 0, 0, [])],
  [(128, .getfield 49, 12, 22, 0, [7040]), (131, .aload_n 0, 0, 0, 0, []), (132, .getfield 339, 12, 33, 0, [7051]), (135, .iaload, 0, 0, 0, []), (136, .iadd, 0, 0, 0, []), (137, .istore_n 2, 0, 0, 0, []), (138, .aload_n 0, 0, 0, 0, []), (139, .getfield 55, 12, 24, 0, [7042]), (142, .iload_n 2, 0, 0, 0, []), (143, .iload_n 1, 0, 0, 0, []), (144, .iastore, 0, 0, 0, []), (145, .aload_n 0, 0, 0, 0, []), (146, .getfield 58, 12, 25, 0, [7043]), (149, .iload_n 2, 0, 0, 0, []), (150, .aload_n 0, 0, 0, 0, []), (151, .getfield 24, 12, 6, 0, [7024]), (154, .aload_n 0, 0, 0, 0, []), (155, .getfield 284, 12, 11, 0, [7029]), (158, .iaload, 0, 0, 0, []), (159, .iastore, 0, 0, 0, [])],
  [(160, .aload_n 0, 0, 0, 0, []), (161, .getfield 64, 12, 27, 0, [7045]), (164, .iload_n 2, 0, 0, 0, []), (165, .iconst (-1), 0, 0, 0, []), (166, .iastore, 0, 0, 0, []), (167, .aload_n 0, 0, 0, 0, []), (168, .getfield 70, 12, 29, 0, [7047]), (171, .iload_n 2, 0, 0, 0, []), (172, .iconst (-1), 0, 0, 0, []), (173, .iastore, 0, 0, 0, []), (174, .aload_n 0, 0, 0, 0, []), (175, .invokevirtual 302, 219, 0, 12, [8138, 8140, 141, 1015, 8141]), (178, .iconst 1, 0, 0, 0, []), (179, .istore_n 3, 0, 0, 0, []), (180, .iload_n 1, 0, 0, 0, []), (181, .tableswitch 239 0 4 #[35, 43, 129, 214, 222], 0, 0, 0, [])],
  [(216, .aload_n 0, 0, 0, 0, []), (217, .iload_n 2, 0, 0, 0, []), (218, .invokevirtual 348, 228, 1, 12, [8198, 8200, 156, 1015, 8201]), (221, .goto 346, 567, 0, 0, [])],
  [(224, .aload_n 0, 0, 0, 0, []), (225, .getfield 61, 12, 26, 0, [7044]), (228, .iload_n 2, 0, 0, 0, []), (229, .aload_n 0, 0, 0, 0, []), (230, .iconst 0, 0, 0, 0, []), (231, .iconst 2, 0, 0, 0, []), (232, .invokevirtual 351, 223, 2, 12, [8150, 8152, 144, 1015, 8153]), (235, .iastore, 0, 0, 0, []), (236, .aload_n 0, 0, 0, 0, []), (237, .bipush 26, 0, 0, 0, []), (239, .invokevirtual 329, 220, 1, 12, [8154, 8156, 145, 1015, 8157]), (242, .aload_n 0, 0, 0, 0, []), (243, .iload_n 2, 0, 0, 0, []), (244, .iconst 0, 0, 0, 0, []), (245, .invokevirtual 355, 229, 2, 12, [8202, 8204, 157, 1015, 8205]), (248, .aload_n 0, 0, 0, 0, []), (249, .bipush 32, 0, 0, 0, []), (251, .invokevirtual 329, 220, 1, 12, [8154, 8156, 145, 1015, 8157]), (254, .aload_n 0, 0, 0, 0, []), (255, .iload_n 2, 0, 0, 0, [])],
  [(256, .iconst 1, 0, 0, 0, []), (257, .invokevirtual 355, 229, 2, 12, [8202, 8204, 157, 1015, 8205]), (260, .aload_n 0, 0, 0, 0, []), (261, .bipush 28, 0, 0, 0, []), (263, .invokevirtual 329, 220, 1, 12, [8154, 8156, 145, 1015, 8157]), (266, .aload_n 0, 0, 0, 0, []), (267, .getfield 76, 12, 31, 0, [7049]), (270, .bipush 6, 0, 0, 0, []), (272, .iload_n 2, 0, 0, 0, []), (273, .imul, 0, 0, 0, []), (274, .aload_n 0, 0, 0, 0, []), (275, .iconst 0, 0, 0, 0, []), (276, .sipush 400, 0, 0, 0, []), (279, .invokevirtual 351, 223, 2, 12, [8150, 8152, 144, 1015, 8153]), (282, .iastore, 0, 0, 0, []), (283, .aload_n 0, 0, 0, 0, []), (284, .iconst 5, 0, 0, 0, []), (285, .invokevirtual 329, 220, 1, 12, [8154, 8156, 145, 1015, 8157])],
  [(288, .aload_n 0, 0, 0, 0, []), (289, .getfield 76, 12, 31, 0, [7049]), (292, .bipush 6, 0, 0, 0, []), (294, .iload_n 2, 0, 0, 0, []), (295, .imul, 0, 0, 0, []), (296, .iconst 1, 0, 0, 0, []), (297, .iadd, 0, 0, 0, []), (298, .aload_n 0, 0, 0, 0, []), (299, .iconst 0, 0, 0, 0, []), (300, .sipush 400, 0, 0, 0, []), (303, .invokevirtual 351, 223, 2, 12, [8150, 8152, 144, 1015, 8153]), (306, .iastore, 0, 0, 0, []), (307, .goto 260, 567, 0, 0, []), (310, .aload_n 0, 0, 0, 0, []), (311, .getfield 61, 12, 26, 0, [7044]), (314, .iload_n 2, 0, 0, 0, []), (315, .aload_n 0, 0, 0, 0, []), (316, .iconst 0, 0, 0, 0, []), (317, .iconst 2, 0, 0, 0, []), (318, .invokevirtual 351, 223, 2, 12, [8150, 8152, 144, 1015, 8153])],
  [(321, .iastore, 0, 0, 0, []), (322, .aload_n 0, 0, 0, 0, []), (323, .bipush 34, 0, 0, 0, []), (325, .invokevirtual 329, 220, 1, 12, [8154, 8156, 145, 1015, 8157]), (328, .aload_n 0, 0, 0, 0, []), (329, .getfield 76, 12, 31, 0, [7049]), (332, .bipush 6, 0, 0, 0, []), (334, .iload_n 2, 0, 0, 0, []), (335, .imul, 0, 0, 0, []), (336, .aload_n 0, 0, 0, 0, []), (337, .iconst 0, 0, 0, 0, []), (338, .iconst 2, 0, 0, 0, []), (339, .invokevirtual 351, 223, 2, 12, [8150, 8152, 144, 1015, 8153]), (342, .iastore, 0, 0, 0, []), (343, .aload_n 0, 0, 0, 0, []), (344, .bipush 35, 0, 0, 0, []), (346, .invokevirtual 329, 220, 1, 12, [8154, 8156, 145, 1015, 8157]), (349, .aload_n 0, 0, 0, 0, []), (350, .getfield 76, 12, 31, 0, [7049])],
  [(353, .bipush 6, 0, 0, 0, []), (355, .iload_n 2, 0, 0, 0, []), (356, .imul, 0, 0, 0, []), (357, .iconst 1, 0, 0, 0, []), (358, .iadd, 0, 0, 0, []), (359, .aload_n 0, 0, 0, 0, []), (360, .iconst 0, 0, 0, 0, []), (361, .sipush 400, 0, 0, 0, []), (364, .invokevirtual 351, 223, 2, 12, [8150, 8152, 144, 1015, 8153]), (367, .iastore, 0, 0, 0, []), (368, .aload_n 0, 0, 0, 0, []), (369, .bipush 36, 0, 0, 0, []), (371, .invokevirtual 329, 220, 1, 12, [8154, 8156, 145, 1015, 8157]), (374, .aload_n 0, 0, 0, 0, []), (375, .getfield 76, 12, 31, 0, [7049]), (378, .bipush 6, 0, 0, 0, []), (380, .iload_n 2, 0, 0, 0, []), (381, .imul, 0, 0, 0, []), (382, .iconst 2, 0, 0, 0, []), (383, .iadd, 0, 0, 0, [])],
  [(384, .aload_n 0, 0, 0, 0, []), (385, .iconst 0, 0, 0, 0, []), (386, .bipush 60, 0, 0, 0, []), (388, .invokevirtual 351, 223, 2, 12, [8150, 8152, 144, 1015, 8153]), (391, .iastore, 0, 0, 0, []), (392, .goto 175, 567, 0, 0, []), (395, .aload_n 0, 0, 0, 0, []), (396, .iload_n 2, 0, 0, 0, []), (397, .invokevirtual 359, 230, 1, 12, [8206, 8208, 158, 1015, 8209]), (400, .goto 167, 567, 0, 0, []), (403, .aload_n 0, 0, 0, 0, []), (404, .getfield 61, 12, 26, 0, [7044]), (407, .iload_n 2, 0, 0, 0, []), (408, .aload_n 0, 0, 0, 0, []), (409, .iconst 0, 0, 0, 0, []), (410, .sipush 9999, 0, 0, 0, []), (413, .invokevirtual 351, 223, 2, 12, [8150, 8152, 144, 1015, 8153])],
  [(416, .iastore, 0, 0, 0, []), (417, .goto 150, 567, 0, 0, []), (420, .aload_n 0, 0, 0, 0, []), (421, .getfield 284, 12, 11, 0, [7029]), (424, .istore 4, 0, 0, 0, []), (426, .aload_n 0, 0, 0, 0, []), (427, .iconst 1, 0, 0, 0, []), (428, .invokevirtual 329, 220, 1, 12, [8154, 8156, 145, 1015, 8157]), (431, .aload_n 0, 0, 0, 0, []), (432, .bipush 25, 0, 0, 0, []), (434, .invokevirtual 329, 220, 1, 12, [8154, 8156, 145, 1015, 8157]), (437, .aload_n 0, 0, 0, 0, []), (438, .iload_n 2, 0, 0, 0, []), (439, .iconst 0, 0, 0, 0, []), (440, .invokevirtual 355, 229, 2, 12, [8202, 8204, 157, 1015, 8205]), (443, .aload_n 0, 0, 0, 0, []), (444, .getfield 281, 12, 13, 0, [7031]), (447, .ifCond .le 4, 451, 0, 0, [])],
  [(450, .return_, 0, 0, 0, []), (451, .aload_n 0, 0, 0, 0, []), (452, .getfield 61, 12, 26, 0, [7044]), (455, .iload_n 2, 0, 0, 0, []), (456, .iconst (-1), 0, 0, 0, []), (457, .iastore, 0, 0, 0, []), (458, .aload_n 0, 0, 0, 0, []), (459, .getfield 43, 12, 20, 0, [7038]), (462, .aload_n 0, 0, 0, 0, []), (463, .getfield 314, 12, 32, 0, [7050]), (466, .iaload, 0, 0, 0, []), (467, .iconst 1, 0, 0, 0, []), (468, .isub, 0, 0, 0, []), (469, .istore 5, 0, 0, 0, []), (471, .iload 5, 0, 0, 0, []), (473, .ifCond .lt 43, 516, 0, 0, []), (476, .aload_n 0, 0, 0, 0, []), (477, .getfield 46, 12, 21, 0, [7039])],
  [(480, .bipush 6, 0, 0, 0, []), (482, .aload_n 0, 0, 0, 0, []), (483, .getfield 314, 12, 32, 0, [7050]), (486, .imul, 0, 0, 0, []), (487, .iload 5, 0, 0, 0, []), (489, .iadd, 0, 0, 0, []), (490, .laload, 0, 0, 0, []), (491, .aload_n 0, 0, 0, 0, []), (492, .getfield 30, 12, 8, 0, [7026]), (495, .iload 4, 0, 0, 0, []), (497, .laload, 0, 0, 0, []), (498, .lcmp, 0, 0, 0, []), (499, .ifCond .ne 11, 510, 0, 0, []), (502, .aload_n 0, 0, 0, 0, []), (503, .getfield 61, 12, 26, 0, [7044]), (506, .iload_n 2, 0, 0, 0, []), (507, .iload 5, 0, 0, 0, []), (509, .iastore, 0, 0, 0, []), (510, .iinc 5 (-1), 0, 0, 0, [])],
  [(513, .goto (-42), 471, 0, 0, []), (516, .aload_n 0, 0, 0, 0, []), (517, .getfield 61, 12, 26, 0, [7044]), (520, .iload_n 2, 0, 0, 0, []), (521, .iaload, 0, 0, 0, []), (522, .iconst (-1), 0, 0, 0, []), (523, .if_icmp .ne 10, 533, 0, 0, []), (526, .aload_n 0, 0, 0, 0, []), (527, .iconst 4, 0, 0, 0, []), (528, .iload 4, 0, 0, 0, []), (530, .invokevirtual 332, 218, 2, 12, [8158, 8160, 146, 1015, 8161]), (533, .aload_n 0, 0, 0, 0, []), (534, .getfield 61, 12, 26, 0, [7044]), (537, .iload_n 2, 0, 0, 0, []), (538, .iaload, 0, 0, 0, []), (539, .iconst (-1), 0, 0, 0, []), (540, .if_icmp .ne 7, 547, 0, 0, []), (543, .iconst 0, 0, 0, 0, [])],
  [(544, .goto 22, 566, 0, 0, []), (547, .aload_n 0, 0, 0, 0, []), (548, .getfield 52, 12, 23, 0, [7041]), (551, .bipush 7, 0, 0, 0, []), (553, .aload_n 0, 0, 0, 0, []), (554, .getfield 314, 12, 32, 0, [7050]), (557, .imul, 0, 0, 0, []), (558, .aload_n 0, 0, 0, 0, []), (559, .getfield 61, 12, 26, 0, [7044]), (562, .iload_n 2, 0, 0, 0, []), (563, .iaload, 0, 0, 0, []), (564, .iadd, 0, 0, 0, []), (565, .iaload, 0, 0, 0, []), (566, .istore_n 3, 0, 0, 0, []), (567, .aload_n 0, 0, 0, 0, []), (568, .iconst 4, 0, 0, 0, []), (569, .invokevirtual 329, 220, 1, 12, [8154, 8156, 145, 1015, 8157]), (572, .aload_n 0, 0, 0, 0, []), (573, .getfield 281, 12, 13, 0, [7031])],
  [(576, .ifCond .le 4, 580, 0, 0, []), (579, .return_, 0, 0, 0, []), (580, .aload_n 0, 0, 0, 0, []), (581, .getfield 49, 12, 22, 0, [7040]), (584, .aload_n 0, 0, 0, 0, []), (585, .getfield 339, 12, 33, 0, [7051]), (588, .dup2, 0, 0, 0, []), (589, .iaload, 0, 0, 0, []), (590, .iconst 1, 0, 0, 0, []), (591, .iadd, 0, 0, 0, []), (592, .iastore, 0, 0, 0, []), (593, .aload_n 0, 0, 0, 0, []), (594, .getfield 52, 12, 23, 0, [7041]), (597, .aload_n 0, 0, 0, 0, []), (598, .getfield 339, 12, 33, 0, [7051]), (601, .dup2, 0, 0, 0, []), (602, .iaload, 0, 0, 0, []), (603, .iload_n 3, 0, 0, 0, []), (604, .iadd, 0, 0, 0, []), (605, .iastore, 0, 0, 0, []), (606, .aload_n 0, 0, 0, 0, []), (607, .getfield 52, 12, 23, 0, [7041])],
  [(610, .aload_n 0, 0, 0, 0, []), (611, .getfield 339, 12, 33, 0, [7051]), (614, .iaload, 0, 0, 0, []), (615, .sipush 1000, 0, 0, 0, []), (618, .if_icmp .le 15, 633, 0, 0, []), (621, .aload_n 0, 0, 0, 0, []), (622, .getfield 52, 12, 23, 0, [7041]), (625, .aload_n 0, 0, 0, 0, []), (626, .getfield 339, 12, 33, 0, [7051]), (629, .sipush 1000, 0, 0, 0, []), (632, .iastore, 0, 0, 0, []), (633, .return_, 0, 0, 0, [])]]
def gP228 : List (List gE) := [
  [(0, .aload_n 0, 0, 0, 0, []), (1, .getfield 61, 12, 26, 0, [7044]), (4, .iload_n 1, 0, 0, 0, []), (5, .aload_n 0, 0, 0, 0, []), (6, .iconst 0, 0, 0, 0, []), (7, .bipush 19, 0, 0, 0, []), (9, .invokevirtual 351, 223, 2, 12, [8150, 8152, 144, 1015, 8153]), (12, .iastore, 0, 0, 0, []), (13, .aload_n 0, 0, 0, 0, []), (14, .bipush 25, 0, 0, 0, []), (16, .invokevirtual 329, 220, 1, 12, [8154, 8156, 145, 1015, 8157]), (19, .aload_n 0, 0, 0, 0, []), (20, .iload_n 1, 0, 0, 0, []), (21, .iconst 0, 0, 0, 0, []), (22, .invokevirtual 355, 229, 2, 12, [8202, 8204, 157, 1015, 8205]), (25, .aload_n 0, 0, 0, 0, []), (26, .getfield 76, 12, 31, 0, [7049]), (29, .bipush 6, 0, 0, 0, []), (31, .iload_n 1, 0, 0, 0, [])],
  [(32, .imul, 0, 0, 0, []), (33, .iconst 0, 0, 0, 0, []), (34, .iastore, 0, 0, 0, []), (35, .aload_n 0, 0, 0, 0, []), (36, .getfield 76, 12, 31, 0, [7049]), (39, .bipush 6, 0, 0, 0, []), (41, .iload_n 1, 0, 0, 0, []), (42, .imul, 0, 0, 0, []), (43, .iconst 1, 0, 0, 0, []), (44, .iadd, 0, 0, 0, []), (45, .iconst (-1), 0, 0, 0, []), (46, .iastore, 0, 0, 0, []), (47, .aload_n 0, 0, 0, 0, []), (48, .getfield 76, 12, 31, 0, [7049]), (51, .bipush 6, 0, 0, 0, []), (53, .iload_n 1, 0, 0, 0, []), (54, .imul, 0, 0, 0, []), (55, .iconst 2, 0, 0, 0, []), (56, .iadd, 0, 0, 0, []), (57, .bipush 100, 0, 0, 0, []), (59, .iastore, 0, 0, 0, []), (60, .aload_n 0, 0, 0, 0, []), (61, .getfield 76, 12, 31, 0, [7049])],
  [(64, .bipush 6, 0, 0, 0, []), (66, .iload_n 1, 0, 0, 0, []), (67, .imul, 0, 0, 0, []), (68, .iconst 3, 0, 0, 0, []), (69, .iadd, 0, 0, 0, []), (70, .iconst 1, 0, 0, 0, []), (71, .iastore, 0, 0, 0, []), (72, .aload_n 0, 0, 0, 0, []), (73, .getfield 76, 12, 31, 0, [7049]), (76, .bipush 6, 0, 0, 0, []), (78, .iload_n 1, 0, 0, 0, []), (79, .imul, 0, 0, 0, []), (80, .iconst 4, 0, 0, 0, []), (81, .iadd, 0, 0, 0, []), (82, .iconst 1, 0, 0, 0, []), (83, .iastore, 0, 0, 0, []), (84, .aload_n 0, 0, 0, 0, []), (85, .bipush 26, 0, 0, 0, []), (87, .invokevirtual 299, 216, 1, 12, [8130, 8132, 139, 1015, 8133]), (90, .ifCond .eq 23, 113, 0, 0, []), (93, .aload_n 0, 0, 0, 0, []), (94, .invokevirtual 302, 219, 0, 12, [8138, 8140, 141, 1015, 8141])],
  [(97, .aload_n 0, 0, 0, 0, []), (98, .getfield 76, 12, 31, 0, [7049]), (101, .bipush 6, 0, 0, 0, []), (103, .iload_n 1, 0, 0, 0, []), (104, .imul, 0, 0, 0, []), (105, .aload_n 0, 0, 0, 0, []), (106, .iconst 0, 0, 0, 0, []), (107, .bipush 60, 0, 0, 0, []), (109, .invokevirtual 351, 223, 2, 12, [8150, 8152, 144, 1015, 8153]), (112, .iastore, 0, 0, 0, []), (113, .aload_n 0, 0, 0, 0, []), (114, .bipush 27, 0, 0, 0, []), (116, .invokevirtual 299, 216, 1, 12, [8130, 8132, 139, 1015, 8133]), (119, .ifCond .eq 25, 144, 0, 0, []), (122, .aload_n 0, 0, 0, 0, []), (123, .invokevirtual 302, 219, 0, 12, [8138, 8140, 141, 1015, 8141]), (126, .aload_n 0, 0, 0, 0, []), (127, .getfield 76, 12, 31, 0, [7049])],
  [(130, .bipush 6, 0, 0, 0, []), (132, .iload_n 1, 0, 0, 0, []), (133, .imul, 0, 0, 0, []), (134, .iconst 1, 0, 0, 0, []), (135, .iadd, 0, 0, 0, []), (136, .aload_n 0, 0, 0, 0, []), (137, .iconst 0, 0, 0, 0, []), (138, .bipush 60, 0, 0, 0, []), (140, .invokevirtual 351, 223, 2, 12, [8150, 8152, 144, 1015, 8153]), (143, .iastore, 0, 0, 0, []), (144, .aload_n 0, 0, 0, 0, []), (145, .bipush 28, 0, 0, 0, []), (147, .invokevirtual 299, 216, 1, 12, [8130, 8132, 139, 1015, 8133]), (150, .ifCond .eq 26, 176, 0, 0, []), (153, .aload_n 0, 0, 0, 0, []), (154, .invokevirtual 302, 219, 0, 12, [8138, 8140, 141, 1015, 8141]), (157, .aload_n 0, 0, 0, 0, []), (158, .getfield 76, 12, 31, 0, [7049])],
  [(161, .bipush 6, 0, 0, 0, []), (163, .iload_n 1, 0, 0, 0, []), (164, .imul, 0, 0, 0, []), (165, .iconst 2, 0, 0, 0, []), (166, .iadd, 0, 0, 0, []), (167, .aload_n 0, 0, 0, 0, []), (168, .iconst 0, 0, 0, 0, []), (169, .sipush 400, 0, 0, 0, []), (172, .invokevirtual 351, 223, 2, 12, [8150, 8152, 144, 1015, 8153]), (175, .iastore, 0, 0, 0, []), (176, .aload_n 0, 0, 0, 0, []), (177, .bipush 29, 0, 0, 0, []), (179, .invokevirtual 299, 216, 1, 12, [8130, 8132, 139, 1015, 8133]), (182, .ifCond .eq 49, 231, 0, 0, []), (185, .aload_n 0, 0, 0, 0, []), (186, .invokevirtual 302, 219, 0, 12, [8138, 8140, 141, 1015, 8141]), (189, .aload_n 0, 0, 0, 0, []), (190, .getfield 76, 12, 31, 0, [7049])],
  [(193, .bipush 6, 0, 0, 0, []), (195, .iload_n 1, 0, 0, 0, []), (196, .imul, 0, 0, 0, []), (197, .iconst 3, 0, 0, 0, []), (198, .iadd, 0, 0, 0, []), (199, .aload_n 0, 0, 0, 0, []), (200, .iconst 1, 0, 0, 0, []), (201, .bipush 9, 0, 0, 0, []), (203, .invokevirtual 351, 223, 2, 12, [8150, 8152, 144, 1015, 8153]), (206, .iastore, 0, 0, 0, []), (207, .aload_n 0, 0, 0, 0, []), (208, .bipush 15, 0, 0, 0, []), (210, .invokevirtual 329, 220, 1, 12, [8154, 8156, 145, 1015, 8157]), (213, .aload_n 0, 0, 0, 0, []), (214, .getfield 76, 12, 31, 0, [7049]), (217, .bipush 6, 0, 0, 0, []), (219, .iload_n 1, 0, 0, 0, []), (220, .imul, 0, 0, 0, []), (221, .iconst 4, 0, 0, 0, []), (222, .iadd, 0, 0, 0, []), (223, .aload_n 0, 0, 0, 0, [])],
  [(224, .iconst 1, 0, 0, 0, []), (225, .bipush 9, 0, 0, 0, []), (227, .invokevirtual 351, 223, 2, 12, [8150, 8152, 144, 1015, 8153]), (230, .iastore, 0, 0, 0, []), (231, .aload_n 0, 0, 0, 0, []), (232, .bipush 30, 0, 0, 0, []), (234, .invokevirtual 329, 220, 1, 12, [8154, 8156, 145, 1015, 8157]), (237, .aload_n 0, 0, 0, 0, []), (238, .getfield 76, 12, 31, 0, [7049]), (241, .bipush 6, 0, 0, 0, []), (243, .iload_n 1, 0, 0, 0, []), (244, .imul, 0, 0, 0, []), (245, .iconst 5, 0, 0, 0, []), (246, .iadd, 0, 0, 0, []), (247, .aload_n 0, 0, 0, 0, []), (248, .iconst 0, 0, 0, 0, []), (249, .iconst 2, 0, 0, 0, []), (250, .invokevirtual 351, 223, 2, 12, [8150, 8152, 144, 1015, 8153]), (253, .iastore, 0, 0, 0, []), (254, .return_, 0, 0, 0, [])]]
def gP229 : List (List gE) := [
  [(0, .iconst (-1), 0, 0, 0, []), (1, .istore_n 3, 0, 0, 0, []), (2, .iconst 0, 0, 0, 0, []), (3, .istore 4, 0, 0, 0, []), (5, .aload_n 0, 0, 0, 0, []), (6, .bipush 41, 0, 0, 0, []), (8, .invokevirtual 299, 216, 1, 12, [8130, 8132, 139, 1015, 8133]), (11, .ifCond .eq 68, 79, 0, 0, []), (14, .aload_n 0, 0, 0, 0, []), (15, .invokevirtual 302, 219, 0, 12, [8138, 8140, 141, 1015, 8141]), (18, .aload_n 0, 0, 0, 0, []), (19, .iconst 0, 0, 0, 0, []), (20, .bipush 7, 0, 0, 0, []), (22, .invokevirtual 351, 223, 2, 12, [8150, 8152, 144, 1015, 8153]), (25, .istore_n 3, 0, 0, 0, []), (26, .aload_n 0, 0, 0, 0, []), (27, .bipush 9, 0, 0, 0, []), (29, .invokevirtual 299, 216, 1, 12, [8130, 8132, 139, 1015, 8133])],
  [(32, .ifCond .eq 7, 39, 0, 0, []), (35, .iconst (-1), 0, 0, 0, []), (36, .goto 4, 40, 0, 0, []), (39, .iconst 1, 0, 0, 0, []), (40, .istore 5, 0, 0, 0, []), (42, .aload_n 0, 0, 0, 0, []), (43, .bipush 8, 0, 0, 0, []), (45, .invokevirtual 299, 216, 1, 12, [8130, 8132, 139, 1015, 8133]), (48, .ifCond .ne 12, 60, 0, 0, []), (51, .aload_n 0, 0, 0, 0, []), (52, .bipush 9, 0, 0, 0, []), (54, .invokevirtual 299, 216, 1, 12, [8130, 8132, 139, 1015, 8133]), (57, .ifCond .eq 19, 76, 0, 0, []), (60, .aload_n 0, 0, 0, 0, []), (61, .invokevirtual 302, 219, 0, 12, [8138, 8140, 141, 1015, 8141])],
  [(64, .iload 5, 0, 0, 0, []), (66, .aload_n 0, 0, 0, 0, []), (67, .iconst 0, 0, 0, 0, []), (68, .bipush 60, 0, 0, 0, []), (70, .invokevirtual 351, 223, 2, 12, [8150, 8152, 144, 1015, 8153]), (73, .imul, 0, 0, 0, []), (74, .istore 4, 0, 0, 0, []), (76, .goto 12, 88, 0, 0, []), (79, .aload_n 0, 0, 0, 0, []), (80, .iconst 0, 0, 0, 0, []), (81, .bipush 60, 0, 0, 0, []), (83, .invokevirtual 351, 223, 2, 12, [8150, 8152, 144, 1015, 8153]), (86, .istore 4, 0, 0, 0, []), (88, .iload_n 2, 0, 0, 0, []), (89, .ifCond .eq 21, 110, 0, 0, []), (92, .aload_n 0, 0, 0, 0, []), (93, .getfield 70, 12, 29, 0, [7047])],
  [(96, .iload_n 1, 0, 0, 0, []), (97, .iload_n 3, 0, 0, 0, []), (98, .iastore, 0, 0, 0, []), (99, .aload_n 0, 0, 0, 0, []), (100, .getfield 73, 12, 30, 0, [7048]), (103, .iload_n 1, 0, 0, 0, []), (104, .iload 4, 0, 0, 0, []), (106, .iastore, 0, 0, 0, []), (107, .goto 18, 125, 0, 0, []), (110, .aload_n 0, 0, 0, 0, []), (111, .getfield 64, 12, 27, 0, [7045]), (114, .iload_n 1, 0, 0, 0, []), (115, .iload_n 3, 0, 0, 0, []), (116, .iastore, 0, 0, 0, []), (117, .aload_n 0, 0, 0, 0, []), (118, .getfield 67, 12, 28, 0, [7046]), (121, .iload_n 1, 0, 0, 0, []), (122, .iload 4, 0, 0, 0, []), (124, .iastore, 0, 0, 0, []), (125, .return_, 0, 0, 0, [])]]
def gP230 : List (List gE) := [
  [(0, .aload_n 0, 0, 0, 0, []), (1, .getfield 61, 12, 26, 0, [7044]), (4, .iload_n 1, 0, 0, 0, []), (5, .aload_n 0, 0, 0, 0, []), (6, .iconst 0, 0, 0, 0, []), (7, .iconst 2, 0, 0, 0, []), (8, .invokevirtual 351, 223, 2, 12, [8150, 8152, 144, 1015, 8153]), (11, .iastore, 0, 0, 0, []), (12, .aload_n 0, 0, 0, 0, []), (13, .bipush 38, 0, 0, 0, []), (15, .invokevirtual 329, 220, 1, 12, [8154, 8156, 145, 1015, 8157]), (18, .iconst 0, 0, 0, 0, []), (19, .istore_n 2, 0, 0, 0, []), (20, .iconst 1, 0, 0, 0, []), (21, .istore_n 3, 0, 0, 0, []), (22, .iload_n 3, 0, 0, 0, []), (23, .ifCond .eq 80, 103, 0, 0, []), (26, .aload_n 0, 0, 0, 0, []), (27, .getfield 281, 12, 13, 0, [7031]), (30, .ifCond .ne 73, 103, 0, 0, [])],
  [(33, .aload_n 0, 0, 0, 0, []), (34, .iconst 2, 0, 0, 0, []), (35, .invokevirtual 299, 216, 1, 12, [8130, 8132, 139, 1015, 8133]), (38, .ifCond .eq 13, 51, 0, 0, []), (41, .iload_n 2, 0, 0, 0, []), (42, .iconst 4, 0, 0, 0, []), (43, .if_icmp .ne 8, 51, 0, 0, []), (46, .aload_n 0, 0, 0, 0, []), (47, .iconst 2, 0, 0, 0, []), (48, .invokevirtual 296, 217, 1, 12, [8142, 8144, 142, 1015, 8145]), (51, .aload_n 0, 0, 0, 0, []), (52, .iconst 0, 0, 0, 0, []), (53, .sipush 400, 0, 0, 0, []), (56, .invokevirtual 351, 223, 2, 12, [8150, 8152, 144, 1015, 8153]), (59, .istore 4, 0, 0, 0, []), (61, .aload_n 0, 0, 0, 0, []), (62, .getfield 281, 12, 13, 0, [7031])],
  [(65, .ifCond .ne 18, 83, 0, 0, []), (68, .aload_n 0, 0, 0, 0, []), (69, .getfield 76, 12, 31, 0, [7049]), (72, .bipush 6, 0, 0, 0, []), (74, .iload_n 1, 0, 0, 0, []), (75, .imul, 0, 0, 0, []), (76, .iconst 1, 0, 0, 0, []), (77, .iadd, 0, 0, 0, []), (78, .iload_n 2, 0, 0, 0, []), (79, .iadd, 0, 0, 0, []), (80, .iload 4, 0, 0, 0, []), (82, .iastore, 0, 0, 0, []), (83, .iinc 2 1, 0, 0, 0, []), (86, .aload_n 0, 0, 0, 0, []), (87, .iconst 5, 0, 0, 0, []), (88, .invokevirtual 299, 216, 1, 12, [8130, 8132, 139, 1015, 8133]), (91, .istore_n 3, 0, 0, 0, []), (92, .iload_n 3, 0, 0, 0, []), (93, .ifCond .eq 7, 100, 0, 0, [])],
  [(96, .aload_n 0, 0, 0, 0, []), (97, .invokevirtual 302, 219, 0, 12, [8138, 8140, 141, 1015, 8141]), (100, .goto (-78), 22, 0, 0, []), (103, .aload_n 0, 0, 0, 0, []), (104, .getfield 76, 12, 31, 0, [7049]), (107, .bipush 6, 0, 0, 0, []), (109, .iload_n 1, 0, 0, 0, []), (110, .imul, 0, 0, 0, []), (111, .iload_n 2, 0, 0, 0, []), (112, .iastore, 0, 0, 0, []), (113, .return_, 0, 0, 0, [])]]
def gP231 : List (List gE) := [
  [(0, .aload_n 0, 0, 0, 0, []), (1, .getfield 79, 12, 36, 0, [7054]), (4, .aload_n 0, 0, 0, 0, []), (5, .getfield 320, 12, 35, 0, [7053]), (8, .iconst 0, 0, 0, 0, []), (9, .iastore, 0, 0, 0, []), (10, .aload_n 0, 0, 0, 0, []), (11, .sipush 200, 0, 0, 0, []), (14, .aload_n 0, 0, 0, 0, []), (15, .getfield 320, 12, 35, 0, [7053]), (18, .imul, 0, 0, 0, []), (19, .putfield 362, 12, 44, 0, [7062]), (22, .aload_n 0, 0, 0, 0, []), (23, .sipush 600, 0, 0, 0, []), (26, .aload_n 0, 0, 0, 0, []), (27, .getfield 320, 12, 35, 0, [7053]), (30, .imul, 0, 0, 0, []), (31, .putfield 365, 12, 51, 0, [7069])],
  [(34, .aload_n 0, 0, 0, 0, []), (35, .invokevirtual 302, 219, 0, 12, [8138, 8140, 141, 1015, 8141]), (38, .aload_n 0, 0, 0, 0, []), (39, .getfield 281, 12, 13, 0, [7031]), (42, .ifCond .ne 19, 61, 0, 0, []), (45, .aload_n 0, 0, 0, 0, []), (46, .bipush 21, 0, 0, 0, []), (48, .invokevirtual 299, 216, 1, 12, [8130, 8132, 139, 1015, 8133]), (51, .ifCond .ne 10, 61, 0, 0, []), (54, .aload_n 0, 0, 0, 0, []), (55, .invokevirtual 368, 232, 0, 12, [8146, 8148, 143, 1015, 8149]), (58, .goto (-20), 38, 0, 0, []), (61, .aload_n 0, 0, 0, 0, []), (62, .bipush 21, 0, 0, 0, [])],
  [(64, .invokevirtual 329, 220, 1, 12, [8154, 8156, 145, 1015, 8157]), (67, .return_, 0, 0, 0, [])]]
def gP232 : List (List gE) := [
  [(0, .aload_n 0, 0, 0, 0, []), (1, .bipush 42, 0, 0, 0, []), (3, .invokevirtual 299, 216, 1, 12, [8130, 8132, 139, 1015, 8133]), (6, .ifCond .ne 20, 26, 0, 0, []), (9, .aload_n 0, 0, 0, 0, []), (10, .bipush 44, 0, 0, 0, []), (12, .invokevirtual 299, 216, 1, 12, [8130, 8132, 139, 1015, 8133]), (15, .ifCond .ne 11, 26, 0, 0, []), (18, .aload_n 0, 0, 0, 0, []), (19, .iconst 1, 0, 0, 0, []), (20, .invokevirtual 296, 217, 1, 12, [8142, 8144, 142, 1015, 8145]), (23, .goto 22, 45, 0, 0, []), (26, .aload_n 0, 0, 0, 0, []), (27, .getfield 79, 12, 36, 0, [7054]), (30, .aload_n 0, 0, 0, 0, []), (31, .getfield 320, 12, 35, 0, [7053])],
  [(34, .iaload, 0, 0, 0, []), (35, .bipush 12, 0, 0, 0, []), (37, .if_icmp .ne 8, 45, 0, 0, []), (40, .aload_n 0, 0, 0, 0, []), (41, .iconst 2, 0, 0, 0, []), (42, .invokevirtual 296, 217, 1, 12, [8142, 8144, 142, 1015, 8145]), (45, .aload_n 0, 0, 0, 0, []), (46, .getfield 281, 12, 13, 0, [7031]), (49, .ifCond .le 4, 53, 0, 0, []), (52, .return_, 0, 0, 0, []), (53, .bipush 12, 0, 0, 0, []), (55, .aload_n 0, 0, 0, 0, []), (56, .getfield 320, 12, 35, 0, [7053]), (59, .imul, 0, 0, 0, []), (60, .aload_n 0, 0, 0, 0, []), (61, .getfield 79, 12, 36, 0, [7054])],
  [(64, .aload_n 0, 0, 0, 0, []), (65, .getfield 320, 12, 35, 0, [7053]), (68, .iaload, 0, 0, 0, []), (69, .iadd, 0, 0, 0, []), (70, .istore_n 1, 0, 0, 0, []), (71, .aload_n 0, 0, 0, 0, []), (72, .getfield 82, 12, 37, 0, [7055]), (75, .iload_n 1, 0, 0, 0, []), (76, .aload_n 0, 0, 0, 0, []), (77, .bipush 42, 0, 0, 0, []), (79, .invokevirtual 299, 216, 1, 12, [8130, 8132, 139, 1015, 8133]), (82, .ifCond .eq 7, 89, 0, 0, []), (85, .iconst 0, 0, 0, 0, []), (86, .goto 4, 90, 0, 0, []), (89, .iconst 1, 0, 0, 0, []), (90, .iastore, 0, 0, 0, []), (91, .aload_n 0, 0, 0, 0, []), (92, .invokevirtual 302, 219, 0, 12, [8138, 8140, 141, 1015, 8141]), (95, .aload_n 0, 0, 0, 0, [])],
  [(96, .getfield 85, 12, 38, 0, [7056]), (99, .iload_n 1, 0, 0, 0, []), (100, .aload_n 0, 0, 0, 0, []), (101, .getfield 365, 12, 51, 0, [7069]), (104, .iastore, 0, 0, 0, []), (105, .aload_n 0, 0, 0, 0, []), (106, .getfield 88, 12, 39, 0, [7057]), (109, .iload_n 1, 0, 0, 0, []), (110, .aload_n 0, 0, 0, 0, []), (111, .getfield 365, 12, 51, 0, [7069]), (114, .iastore, 0, 0, 0, []), (115, .aload_n 0, 0, 0, 0, []), (116, .getfield 91, 12, 40, 0, [7058]), (119, .iload_n 1, 0, 0, 0, []), (120, .aload_n 0, 0, 0, 0, []), (121, .getfield 362, 12, 44, 0, [7062]), (124, .iastore, 0, 0, 0, []), (125, .aload_n 0, 0, 0, 0, []), (126, .getfield 82, 12, 37, 0, [7055])],
  [(129, .iload_n 1, 0, 0, 0, []), (130, .iaload, 0, 0, 0, []), (131, .iconst 1, 0, 0, 0, []), (132, .if_icmp .ne 39, 171, 0, 0, []), (135, .aload_n 0, 0, 0, 0, []), (136, .getfield 97, 12, 42, 0, [7060]), (139, .iload_n 1, 0, 0, 0, []), (140, .aload_n 0, 0, 0, 0, []), (141, .iconst 0, 0, 0, 0, []), (142, .sipush 9999, 0, 0, 0, []), (145, .invokevirtual 351, 223, 2, 12, [8150, 8152, 144, 1015, 8153]), (148, .iastore, 0, 0, 0, []), (149, .aload_n 0, 0, 0, 0, []), (150, .bipush 45, 0, 0, 0, []), (152, .invokevirtual 329, 220, 1, 12, [8154, 8156, 145, 1015, 8157]), (155, .aload_n 0, 0, 0, 0, []), (156, .getfield 100, 12, 43, 0, [7061]), (159, .iload_n 1, 0, 0, 0, [])],
  [(160, .aload_n 0, 0, 0, 0, []), (161, .iconst 1, 0, 0, 0, []), (162, .bipush 60, 0, 0, 0, []), (164, .invokevirtual 351, 223, 2, 12, [8150, 8152, 144, 1015, 8153]), (167, .iastore, 0, 0, 0, []), (168, .goto 87, 255, 0, 0, []), (171, .aload_n 0, 0, 0, 0, []), (172, .invokevirtual 371, 236, 0, 12, [8162, 8164, 147, 1015, 8165]), (175, .aload_n 0, 0, 0, 0, []), (176, .getfield 88, 12, 39, 0, [7057]), (179, .iload_n 1, 0, 0, 0, []), (180, .aload_n 0, 0, 0, 0, []), (181, .getfield 365, 12, 51, 0, [7069]), (184, .iastore, 0, 0, 0, []), (185, .aload_n 0, 0, 0, 0, []), (186, .bipush 43, 0, 0, 0, []), (188, .invokevirtual 299, 216, 1, 12, [8130, 8132, 139, 1015, 8133]), (191, .istore_n 2, 0, 0, 0, [])],
  [(192, .iload_n 2, 0, 0, 0, []), (193, .ifCond .eq 7, 200, 0, 0, []), (196, .aload_n 0, 0, 0, 0, []), (197, .invokevirtual 302, 219, 0, 12, [8138, 8140, 141, 1015, 8141]), (200, .iconst 1, 0, 0, 0, []), (201, .istore_n 3, 0, 0, 0, []), (202, .iload_n 2, 0, 0, 0, []), (203, .ifCond .eq 52, 255, 0, 0, []), (206, .aload_n 0, 0, 0, 0, []), (207, .getfield 281, 12, 13, 0, [7031]), (210, .ifCond .ne 45, 255, 0, 0, []), (213, .aload_n 0, 0, 0, 0, []), (214, .iload_n 3, 0, 0, 0, []), (215, .invokevirtual 374, 233, 1, 12, [8178, 8180, 151, 1015, 8181]), (218, .aload_n 0, 0, 0, 0, []), (219, .bipush 46, 0, 0, 0, []), (221, .invokevirtual 299, 216, 1, 12, [8130, 8132, 139, 1015, 8133])],
  [(224, .istore_n 3, 0, 0, 0, []), (225, .iload_n 3, 0, 0, 0, []), (226, .ifCond .ne 12, 238, 0, 0, []), (229, .aload_n 0, 0, 0, 0, []), (230, .bipush 47, 0, 0, 0, []), (232, .invokevirtual 299, 216, 1, 12, [8130, 8132, 139, 1015, 8133]), (235, .ifCond .eq 7, 242, 0, 0, []), (238, .iconst 1, 0, 0, 0, []), (239, .goto 4, 243, 0, 0, []), (242, .iconst 0, 0, 0, 0, []), (243, .istore_n 2, 0, 0, 0, []), (244, .iload_n 2, 0, 0, 0, []), (245, .ifCond .eq (-43), 202, 0, 0, []), (248, .aload_n 0, 0, 0, 0, []), (249, .invokevirtual 302, 219, 0, 12, [8138, 8140, 141, 1015, 8141]), (252, .goto (-50), 202, 0, 0, []), (255, .aload_n 0, 0, 0, 0, [])],
  [(256, .iconst 4, 0, 0, 0, []), (257, .invokevirtual 329, 220, 1, 12, [8154, 8156, 145, 1015, 8157]), (260, .aload_n 0, 0, 0, 0, []), (261, .getfield 281, 12, 13, 0, [7031]), (264, .ifCond .le 4, 268, 0, 0, []), (267, .return_, 0, 0, 0, []), (268, .aload_n 0, 0, 0, 0, []), (269, .getfield 94, 12, 41, 0, [7059]), (272, .iload_n 1, 0, 0, 0, []), (273, .aload_n 0, 0, 0, 0, []), (274, .getfield 362, 12, 44, 0, [7062]), (277, .iastore, 0, 0, 0, []), (278, .aload_n 0, 0, 0, 0, []), (279, .getfield 79, 12, 36, 0, [7054]), (282, .aload_n 0, 0, 0, 0, []), (283, .getfield 320, 12, 35, 0, [7053]), (286, .dup2, 0, 0, 0, []), (287, .iaload, 0, 0, 0, [])],
  [(288, .iconst 1, 0, 0, 0, []), (289, .iadd, 0, 0, 0, []), (290, .iastore, 0, 0, 0, []), (291, .return_, 0, 0, 0, [])]]
def gP233 : List (List gE) := [
  [(0, .iconst 0, 0, 0, 0, []), (1, .istore_n 2, 0, 0, 0, []), (2, .aload_n 0, 0, 0, 0, []), (3, .bipush 48, 0, 0, 0, []), (5, .invokevirtual 299, 216, 1, 12, [8130, 8132, 139, 1015, 8133]), (8, .ifCond .eq 20, 28, 0, 0, []), (11, .iload_n 2, 0, 0, 0, []), (12, .ifCond .ne 7, 19, 0, 0, []), (15, .iconst 1, 0, 0, 0, []), (16, .goto 4, 20, 0, 0, []), (19, .iconst 0, 0, 0, 0, []), (20, .istore_n 2, 0, 0, 0, []), (21, .aload_n 0, 0, 0, 0, []), (22, .invokevirtual 302, 219, 0, 12, [8138, 8140, 141, 1015, 8141]), (25, .goto (-23), 2, 0, 0, []), (28, .aload_n 0, 0, 0, 0, []), (29, .getfield 365, 12, 51, 0, [7069])],
  [(32, .istore_n 3, 0, 0, 0, []), (33, .aload_n 0, 0, 0, 0, []), (34, .invokevirtual 371, 236, 0, 12, [8162, 8164, 147, 1015, 8165]), (37, .aload_n 0, 0, 0, 0, []), (38, .getfield 281, 12, 13, 0, [7031]), (41, .ifCond .le 7, 48, 0, 0, []), (44, .iconst 0, 0, 0, 0, []), (45, .goto 15, 60, 0, 0, []), (48, .aload_n 0, 0, 0, 0, []), (49, .getfield 20, 12, 5, 0, [7023]), (52, .aload_n 0, 0, 0, 0, []), (53, .getfield 284, 12, 11, 0, [7029]), (56, .iaload, 0, 0, 0, []), (57, .bipush 11, 0, 0, 0, []), (59, .isub, 0, 0, 0, []), (60, .istore 4, 0, 0, 0, []), (62, .aload_n 0, 0, 0, 0, []), (63, .getfield 281, 12, 13, 0, [7031])],
  [(66, .ifCond .ne 19, 85, 0, 0, []), (69, .iload 4, 0, 0, 0, []), (71, .ifCond .lt 9, 80, 0, 0, []), (74, .iload 4, 0, 0, 0, []), (76, .iconst 3, 0, 0, 0, []), (77, .if_icmp .le 8, 85, 0, 0, []), (80, .aload_n 0, 0, 0, 0, []), (81, .iconst 1, 0, 0, 0, []), (82, .invokevirtual 296, 217, 1, 12, [8142, 8144, 142, 1015, 8145]), (85, .aload_n 0, 0, 0, 0, []), (86, .invokevirtual 302, 219, 0, 12, [8138, 8140, 141, 1015, 8141]), (89, .aload_n 0, 0, 0, 0, []), (90, .getfield 365, 12, 51, 0, [7069]), (93, .istore 5, 0, 0, 0, []), (95, .aload_n 0, 0, 0, 0, [])],
  [(96, .invokevirtual 371, 236, 0, 12, [8162, 8164, 147, 1015, 8165]), (99, .aload_n 0, 0, 0, 0, []), (100, .getfield 281, 12, 13, 0, [7031]), (103, .ifCond .le 4, 107, 0, 0, []), (106, .return_, 0, 0, 0, []), (107, .aload_n 0, 0, 0, 0, []), (108, .getfield 103, 12, 45, 0, [7063]), (111, .aload_n 0, 0, 0, 0, []), (112, .getfield 362, 12, 44, 0, [7062]), (115, .iload 4, 0, 0, 0, []), (117, .iastore, 0, 0, 0, []), (118, .aload_n 0, 0, 0, 0, []), (119, .getfield 106, 12, 46, 0, [7064]), (122, .aload_n 0, 0, 0, 0, []), (123, .getfield 362, 12, 44, 0, [7062]), (126, .iload_n 2, 0, 0, 0, []), (127, .bastore, 0, 0, 0, [])],
  [(128, .aload_n 0, 0, 0, 0, []), (129, .getfield 110, 12, 47, 0, [7065]), (132, .aload_n 0, 0, 0, 0, []), (133, .getfield 362, 12, 44, 0, [7062]), (136, .iload_n 1, 0, 0, 0, []), (137, .bastore, 0, 0, 0, []), (138, .aload_n 0, 0, 0, 0, []), (139, .getfield 113, 12, 48, 0, [7066]), (142, .aload_n 0, 0, 0, 0, []), (143, .getfield 362, 12, 44, 0, [7062]), (146, .iload_n 3, 0, 0, 0, []), (147, .iastore, 0, 0, 0, []), (148, .aload_n 0, 0, 0, 0, []), (149, .getfield 116, 12, 49, 0, [7067]), (152, .aload_n 0, 0, 0, 0, []), (153, .getfield 362, 12, 44, 0, [7062]), (156, .iload 5, 0, 0, 0, []), (158, .iastore, 0, 0, 0, []), (159, .aload_n 0, 0, 0, 0, [])],
  [(160, .getfield 119, 12, 50, 0, [7068]), (163, .aload_n 0, 0, 0, 0, []), (164, .getfield 362, 12, 44, 0, [7062]), (167, .aload_n 0, 0, 0, 0, []), (168, .getfield 365, 12, 51, 0, [7069]), (171, .iastore, 0, 0, 0, []), (172, .aload_n 0, 0, 0, 0, []), (173, .dup, 0, 0, 0, []), (174, .getfield 362, 12, 44, 0, [7062]), (177, .iconst 1, 0, 0, 0, []), (178, .iadd, 0, 0, 0, []), (179, .putfield 362, 12, 44, 0, [7062]), (182, .return_, 0, 0, 0, [])]]
def gP234 : List (List gE) := [
  [(0, .aload_n 0, 0, 0, 0, []), (1, .getfield 122, 12, 52, 0, [7070]), (4, .aload_n 0, 0, 0, 0, []), (5, .getfield 365, 12, 51, 0, [7069]), (8, .iload_n 1, 0, 0, 0, []), (9, .iastore, 0, 0, 0, []), (10, .aload_n 0, 0, 0, 0, []), (11, .getfield 125, 12, 53, 0, [7071]), (14, .aload_n 0, 0, 0, 0, []), (15, .getfield 365, 12, 51, 0, [7069]), (18, .iload_n 2, 0, 0, 0, []), (19, .iastore, 0, 0, 0, []), (20, .aload_n 0, 0, 0, 0, []), (21, .dup, 0, 0, 0, []), (22, .getfield 365, 12, 51, 0, [7069]), (25, .iconst 1, 0, 0, 0, []), (26, .iadd, 0, 0, 0, []), (27, .putfield 365, 12, 51, 0, [7069]), (30, .return_, 0, 0, 0, [])]]
def gP235 : List (List gE) := [
  [(0, .aload_n 0, 0, 0, 0, []), (1, .getfield 378, 12, 55, 0, [7073]), (4, .ifCond .le 87, 91, 0, 0, []), (7, .aload_n 0, 0, 0, 0, []), (8, .getfield 128, 12, 54, 0, [7072]), (11, .aload_n 0, 0, 0, 0, []), (12, .getfield 378, 12, 55, 0, [7073]), (15, .iconst 1, 0, 0, 0, []), (16, .isub, 0, 0, 0, []), (17, .iaload, 0, 0, 0, []), (18, .istore_n 2, 0, 0, 0, []), (19, .iload_n 2, 0, 0, 0, []), (20, .bipush 6, 0, 0, 0, []), (22, .if_icmp .eq 19, 41, 0, 0, []), (25, .iload_n 1, 0, 0, 0, []), (26, .ifCond .eq 16, 42, 0, 0, []), (29, .iload_n 2, 0, 0, 0, []), (30, .bipush 8, 0, 0, 0, [])],
  [(32, .if_icmp .eq 9, 41, 0, 0, []), (35, .iload_n 2, 0, 0, 0, []), (36, .bipush 9, 0, 0, 0, []), (38, .if_icmp .ne 4, 42, 0, 0, []), (41, .return_, 0, 0, 0, []), (42, .aload_n 0, 0, 0, 0, []), (43, .dup, 0, 0, 0, []), (44, .getfield 378, 12, 55, 0, [7073]), (47, .iconst 1, 0, 0, 0, []), (48, .isub, 0, 0, 0, []), (49, .putfield 378, 12, 55, 0, [7073]), (52, .aload_n 0, 0, 0, 0, []), (53, .iload_n 2, 0, 0, 0, []), (54, .bipush 8, 0, 0, 0, []), (56, .if_icmp .ne 7, 63, 0, 0, []), (59, .iconst 2, 0, 0, 0, []), (60, .goto 24, 84, 0, 0, []), (63, .iload_n 2, 0, 0, 0, [])],
  [(64, .bipush 9, 0, 0, 0, []), (66, .if_icmp .ne 7, 73, 0, 0, []), (69, .iconst 3, 0, 0, 0, []), (70, .goto 14, 84, 0, 0, []), (73, .iload_n 2, 0, 0, 0, []), (74, .bipush 10, 0, 0, 0, []), (76, .if_icmp .ne 7, 83, 0, 0, []), (79, .iconst 4, 0, 0, 0, []), (80, .goto 4, 84, 0, 0, []), (83, .iconst 5, 0, 0, 0, []), (84, .iconst 0, 0, 0, 0, []), (85, .invokevirtual 381, 234, 2, 12, [8170, 8172, 149, 1015, 8173]), (88, .goto (-88), 0, 0, 0, []), (91, .return_, 0, 0, 0, [])]]
def gP236 : List (List gE) := [
  [(0, .aload_n 0, 0, 0, 0, []), (1, .iconst 0, 0, 0, 0, []), (2, .putfield 378, 12, 55, 0, [7073]), (5, .aload_n 0, 0, 0, 0, []), (6, .getfield 311, 12, 12, 0, [7030]), (9, .istore_n 1, 0, 0, 0, []), (10, .iconst 1, 0, 0, 0, []), (11, .istore_n 2, 0, 0, 0, []), (12, .iload_n 2, 0, 0, 0, []), (13, .ifCond .eq 259, 272, 0, 0, []), (16, .aload_n 0, 0, 0, 0, []), (17, .getfield 281, 12, 13, 0, [7031]), (20, .ifCond .ne 252, 272, 0, 0, []), (23, .aload_n 0, 0, 0, 0, []), (24, .bipush 6, 0, 0, 0, []), (26, .invokevirtual 299, 216, 1, 12, [8130, 8132, 139, 1015, 8133]), (29, .ifCond .eq 55, 84, 0, 0, [])],
  [(32, .aload_n 0, 0, 0, 0, []), (33, .getfield 311, 12, 12, 0, [7030]), (36, .bipush 6, 0, 0, 0, []), (38, .if_icmp .ne 8, 46, 0, 0, []), (41, .aload_n 0, 0, 0, 0, []), (42, .iconst 2, 0, 0, 0, []), (43, .invokevirtual 296, 217, 1, 12, [8142, 8144, 142, 1015, 8145]), (46, .aload_n 0, 0, 0, 0, []), (47, .dup, 0, 0, 0, []), (48, .getfield 311, 12, 12, 0, [7030]), (51, .iconst 1, 0, 0, 0, []), (52, .iadd, 0, 0, 0, []), (53, .putfield 311, 12, 12, 0, [7030]), (56, .aload_n 0, 0, 0, 0, []), (57, .invokevirtual 302, 219, 0, 12, [8138, 8140, 141, 1015, 8141]), (60, .aload_n 0, 0, 0, 0, []), (61, .getfield 128, 12, 54, 0, [7072])],
  [(64, .aload_n 0, 0, 0, 0, []), (65, .getfield 378, 12, 55, 0, [7073]), (68, .bipush 6, 0, 0, 0, []), (70, .iastore, 0, 0, 0, []), (71, .aload_n 0, 0, 0, 0, []), (72, .dup, 0, 0, 0, []), (73, .getfield 378, 12, 55, 0, [7073]), (76, .iconst 1, 0, 0, 0, []), (77, .iadd, 0, 0, 0, []), (78, .putfield 378, 12, 55, 0, [7073]), (81, .goto (-58), 23, 0, 0, []), (84, .aload_n 0, 0, 0, 0, []), (85, .invokevirtual 384, 237, 0, 12, [8166, 8168, 148, 1015, 8169]), (88, .aload_n 0, 0, 0, 0, []), (89, .getfield 281, 12, 13, 0, [7031]), (92, .ifCond .le 4, 96, 0, 0, []), (95, .return_, 0, 0, 0, [])],
  [(96, .aload_n 0, 0, 0, 0, []), (97, .bipush 7, 0, 0, 0, []), (99, .invokevirtual 299, 216, 1, 12, [8130, 8132, 139, 1015, 8133]), (102, .ifCond .eq 43, 145, 0, 0, []), (105, .aload_n 0, 0, 0, 0, []), (106, .getfield 311, 12, 12, 0, [7030]), (109, .iload_n 1, 0, 0, 0, []), (110, .if_icmp .le 35, 145, 0, 0, []), (113, .aload_n 0, 0, 0, 0, []), (114, .iconst 0, 0, 0, 0, []), (115, .invokevirtual 387, 235, 1, 12, [8174, 8176, 150, 1015, 8177]), (118, .aload_n 0, 0, 0, 0, []), (119, .dup, 0, 0, 0, []), (120, .getfield 378, 12, 55, 0, [7073]), (123, .iconst 1, 0, 0, 0, []), (124, .isub, 0, 0, 0, []), (125, .putfield 378, 12, 55, 0, [7073])],
  [(128, .aload_n 0, 0, 0, 0, []), (129, .dup, 0, 0, 0, []), (130, .getfield 311, 12, 12, 0, [7030]), (133, .iconst 1, 0, 0, 0, []), (134, .isub, 0, 0, 0, []), (135, .putfield 311, 12, 12, 0, [7030]), (138, .aload_n 0, 0, 0, 0, []), (139, .invokevirtual 302, 219, 0, 12, [8138, 8140, 141, 1015, 8141]), (142, .goto (-46), 96, 0, 0, []), (145, .aload_n 0, 0, 0, 0, []), (146, .bipush 8, 0, 0, 0, []), (148, .invokevirtual 299, 216, 1, 12, [8130, 8132, 139, 1015, 8133]), (151, .ifCond .ne 30, 181, 0, 0, []), (154, .aload_n 0, 0, 0, 0, []), (155, .bipush 9, 0, 0, 0, []), (157, .invokevirtual 299, 216, 1, 12, [8130, 8132, 139, 1015, 8133])],
  [(160, .ifCond .ne 21, 181, 0, 0, []), (163, .aload_n 0, 0, 0, 0, []), (164, .bipush 10, 0, 0, 0, []), (166, .invokevirtual 299, 216, 1, 12, [8130, 8132, 139, 1015, 8133]), (169, .ifCond .ne 12, 181, 0, 0, []), (172, .aload_n 0, 0, 0, 0, []), (173, .bipush 15, 0, 0, 0, []), (175, .invokevirtual 299, 216, 1, 12, [8130, 8132, 139, 1015, 8133]), (178, .ifCond .eq 7, 185, 0, 0, []), (181, .iconst 1, 0, 0, 0, []), (182, .goto 4, 186, 0, 0, []), (185, .iconst 0, 0, 0, 0, []), (186, .istore_n 2, 0, 0, 0, []), (187, .iload_n 2, 0, 0, 0, []), (188, .ifCond .ne 22, 210, 0, 0, []), (191, .aload_n 0, 0, 0, 0, [])],
  [(192, .getfield 311, 12, 12, 0, [7030]), (195, .iload_n 1, 0, 0, 0, []), (196, .if_icmp .le 8, 204, 0, 0, []), (199, .aload_n 0, 0, 0, 0, []), (200, .iconst 1, 0, 0, 0, []), (201, .invokevirtual 296, 217, 1, 12, [8142, 8144, 142, 1015, 8145]), (204, .aload_n 0, 0, 0, 0, []), (205, .iconst 0, 0, 0, 0, []), (206, .invokevirtual 387, 235, 1, 12, [8174, 8176, 150, 1015, 8177]), (209, .return_, 0, 0, 0, []), (210, .aload_n 0, 0, 0, 0, []), (211, .aload_n 0, 0, 0, 0, []), (212, .bipush 10, 0, 0, 0, []), (214, .invokevirtual 299, 216, 1, 12, [8130, 8132, 139, 1015, 8133]), (217, .ifCond .ne 12, 229, 0, 0, []), (220, .aload_n 0, 0, 0, 0, []), (221, .bipush 15, 0, 0, 0, []), (223, .invokevirtual 299, 216, 1, 12, [8130, 8132, 139, 1015, 8133])],
  [(226, .ifCond .eq 7, 233, 0, 0, []), (229, .iconst 1, 0, 0, 0, []), (230, .goto 4, 234, 0, 0, []), (233, .iconst 0, 0, 0, 0, []), (234, .invokevirtual 387, 235, 1, 12, [8174, 8176, 150, 1015, 8177]), (237, .aload_n 0, 0, 0, 0, []), (238, .getfield 128, 12, 54, 0, [7072]), (241, .aload_n 0, 0, 0, 0, []), (242, .getfield 378, 12, 55, 0, [7073]), (245, .aload_n 0, 0, 0, 0, []), (246, .getfield 20, 12, 5, 0, [7023]), (249, .aload_n 0, 0, 0, 0, []), (250, .getfield 284, 12, 11, 0, [7029]), (253, .iaload, 0, 0, 0, []), (254, .iastore, 0, 0, 0, []), (255, .aload_n 0, 0, 0, 0, [])],
  [(256, .dup, 0, 0, 0, []), (257, .getfield 378, 12, 55, 0, [7073]), (260, .iconst 1, 0, 0, 0, []), (261, .iadd, 0, 0, 0, []), (262, .putfield 378, 12, 55, 0, [7073]), (265, .aload_n 0, 0, 0, 0, []), (266, .invokevirtual 302, 219, 0, 12, [8138, 8140, 141, 1015, 8141]), (269, .goto (-257), 12, 0, 0, []), (272, .return_, 0, 0, 0, [])]]
def gP237 : List (List gE) := [
  [(0, .aload_n 0, 0, 0, 0, []), (1, .iconst 2, 0, 0, 0, []), (2, .invokevirtual 299, 216, 1, 12, [8130, 8132, 139, 1015, 8133]), (5, .ifCond .eq 24, 29, 0, 0, []), (8, .aload_n 0, 0, 0, 0, []), (9, .iconst 0, 0, 0, 0, []), (10, .aload_n 0, 0, 0, 0, []), (11, .getfield 27, 12, 7, 0, [7025]), (14, .aload_n 0, 0, 0, 0, []), (15, .getfield 284, 12, 11, 0, [7029]), (18, .iaload, 0, 0, 0, []), (19, .invokevirtual 381, 234, 2, 12, [8170, 8172, 149, 1015, 8173]), (22, .aload_n 0, 0, 0, 0, []), (23, .invokevirtual 302, 219, 0, 12, [8138, 8140, 141, 1015, 8141]), (26, .goto 67, 93, 0, 0, []), (29, .aload_n 0, 0, 0, 0, []), (30, .getfield 281, 12, 13, 0, [7031])],
  [(33, .ifCond .ne 55, 88, 0, 0, []), (36, .aload_n 0, 0, 0, 0, []), (37, .getfield 20, 12, 5, 0, [7023]), (40, .aload_n 0, 0, 0, 0, []), (41, .getfield 284, 12, 11, 0, [7029]), (44, .iaload, 0, 0, 0, []), (45, .bipush 49, 0, 0, 0, []), (47, .if_icmp .lt 41, 88, 0, 0, []), (50, .aload_n 0, 0, 0, 0, []), (51, .getfield 20, 12, 5, 0, [7023]), (54, .aload_n 0, 0, 0, 0, []), (55, .getfield 284, 12, 11, 0, [7029]), (58, .iaload, 0, 0, 0, []), (59, .bipush 53, 0, 0, 0, []), (61, .if_icmp .gt 27, 88, 0, 0, [])],
  [(64, .aload_n 0, 0, 0, 0, []), (65, .iconst 1, 0, 0, 0, []), (66, .aload_n 0, 0, 0, 0, []), (67, .getfield 20, 12, 5, 0, [7023]), (70, .aload_n 0, 0, 0, 0, []), (71, .getfield 284, 12, 11, 0, [7029]), (74, .iaload, 0, 0, 0, []), (75, .bipush 49, 0, 0, 0, []), (77, .isub, 0, 0, 0, []), (78, .invokevirtual 381, 234, 2, 12, [8170, 8172, 149, 1015, 8173]), (81, .aload_n 0, 0, 0, 0, []), (82, .invokevirtual 302, 219, 0, 12, [8138, 8140, 141, 1015, 8141]), (85, .goto 8, 93, 0, 0, []), (88, .aload_n 0, 0, 0, 0, []), (89, .iconst 1, 0, 0, 0, []), (90, .invokevirtual 296, 217, 1, 12, [8142, 8144, 142, 1015, 8145]), (93, .return_, 0, 0, 0, [])]]
def gP238 : List (List gE) := [
  [(0, .iconst 0, 0, 0, 0, []), (1, .istore_n 3, 0, 0, 0, []), (2, .iload_n 1, 0, 0, 0, []), (3, .istore 4, 0, 0, 0, []), (5, .iload 4, 0, 0, 0, []), (7, .iload_n 2, 0, 0, 0, []), (8, .if_icmp .ge 157, 165, 0, 0, []), (11, .aload_n 0, 0, 0, 0, []), (12, .getfield 122, 12, 52, 0, [7070]), (15, .iload 4, 0, 0, 0, []), (17, .iaload, 0, 0, 0, []), (18, .istore 5, 0, 0, 0, []), (20, .iload 5, 0, 0, 0, []), (22, .iconst 2, 0, 0, 0, []), (23, .if_icmp .ge 42, 65, 0, 0, []), (26, .aload_n 0, 0, 0, 0, []), (27, .getfield 134, 12, 57, 0, [7075]), (30, .iload_n 3, 0, 0, 0, []), (31, .iload 5, 0, 0, 0, [])],
  [(33, .ifCond .ne 13, 46, 0, 0, []), (36, .aload_n 0, 0, 0, 0, []), (37, .getfield 125, 12, 53, 0, [7071]), (40, .iload 4, 0, 0, 0, []), (42, .iaload, 0, 0, 0, []), (43, .goto 15, 58, 0, 0, []), (46, .aload_n 0, 0, 0, 0, []), (47, .getfield 131, 12, 56, 0, [7074]), (50, .aload_n 0, 0, 0, 0, []), (51, .getfield 125, 12, 53, 0, [7071]), (54, .iload 4, 0, 0, 0, []), (56, .iaload, 0, 0, 0, []), (57, .iaload, 0, 0, 0, []), (58, .iastore, 0, 0, 0, []), (59, .iinc 3 1, 0, 0, 0, []), (62, .goto 97, 159, 0, 0, [])],
  [(65, .iinc 3 (-1), 0, 0, 0, []), (68, .aload_n 0, 0, 0, 0, []), (69, .getfield 134, 12, 57, 0, [7075]), (72, .iload_n 3, 0, 0, 0, []), (73, .iconst 1, 0, 0, 0, []), (74, .isub, 0, 0, 0, []), (75, .iaload, 0, 0, 0, []), (76, .istore 6, 0, 0, 0, []), (78, .aload_n 0, 0, 0, 0, []), (79, .getfield 134, 12, 57, 0, [7075]), (82, .iload_n 3, 0, 0, 0, []), (83, .iaload, 0, 0, 0, []), (84, .istore 7, 0, 0, 0, []), (86, .iload 5, 0, 0, 0, []), (88, .iconst 5, 0, 0, 0, []), (89, .if_icmp .ne 15, 104, 0, 0, []), (92, .iload 7, 0, 0, 0, []), (94, .ifCond .ne 10, 104, 0, 0, [])],
  [(97, .aload_n 0, 0, 0, 0, []), (98, .iconst 1, 0, 0, 0, []), (99, .putfield 390, 12, 58, 0, [7076]), (102, .iconst 0, 0, 0, 0, []), (103, .ireturn, 0, 0, 0, []), (104, .aload_n 0, 0, 0, 0, []), (105, .getfield 134, 12, 57, 0, [7075]), (108, .iload_n 3, 0, 0, 0, []), (109, .iconst 1, 0, 0, 0, []), (110, .isub, 0, 0, 0, []), (111, .iload 5, 0, 0, 0, []), (113, .iconst 2, 0, 0, 0, []), (114, .if_icmp .ne 11, 125, 0, 0, []), (117, .iload 6, 0, 0, 0, []), (119, .iload 7, 0, 0, 0, []), (121, .iadd, 0, 0, 0, []), (122, .goto 36, 158, 0, 0, []), (125, .iload 5, 0, 0, 0, []), (127, .iconst 3, 0, 0, 0, [])],
  [(128, .if_icmp .ne 11, 139, 0, 0, []), (131, .iload 6, 0, 0, 0, []), (133, .iload 7, 0, 0, 0, []), (135, .isub, 0, 0, 0, []), (136, .goto 22, 158, 0, 0, []), (139, .iload 5, 0, 0, 0, []), (141, .iconst 4, 0, 0, 0, []), (142, .if_icmp .ne 11, 153, 0, 0, []), (145, .iload 6, 0, 0, 0, []), (147, .iload 7, 0, 0, 0, []), (149, .imul, 0, 0, 0, []), (150, .goto 8, 158, 0, 0, []), (153, .iload 6, 0, 0, 0, []), (155, .iload 7, 0, 0, 0, []), (157, .idiv, 0, 0, 0, []), (158, .iastore, 0, 0, 0, []), (159, .iinc 4 1, 0, 0, 0, [])],
  [(162, .goto (-157), 5, 0, 0, []), (165, .iload_n 3, 0, 0, 0, []), (166, .ifCond .le 12, 178, 0, 0, []), (169, .aload_n 0, 0, 0, 0, []), (170, .getfield 134, 12, 57, 0, [7075]), (173, .iconst 0, 0, 0, 0, []), (174, .iaload, 0, 0, 0, []), (175, .goto 4, 179, 0, 0, []), (178, .iconst 0, 0, 0, 0, []), (179, .ireturn, 0, 0, 0, [])]]
def gP239 : List (List gE) := [
  [(0, .aload_n 0, 0, 0, 0, []), (1, .iconst 0, 0, 0, 0, []), (2, .putfield 390, 12, 58, 0, [7076]), (5, .aload_n 0, 0, 0, 0, []), (6, .aload_n 0, 0, 0, 0, []), (7, .aload_n 0, 0, 0, 0, []), (8, .getfield 85, 12, 38, 0, [7056]), (11, .iload_n 1, 0, 0, 0, []), (12, .iaload, 0, 0, 0, []), (13, .aload_n 0, 0, 0, 0, []), (14, .getfield 88, 12, 39, 0, [7057]), (17, .iload_n 1, 0, 0, 0, []), (18, .iaload, 0, 0, 0, []), (19, .invokevirtual 394, 238, 2, 12, [10036, 10038, 200, 1015, 10039]), (22, .putfield 397, 12, 59, 0, [7077]), (25, .aload_n 0, 0, 0, 0, []), (26, .getfield 91, 12, 40, 0, [7058]), (29, .iload_n 1, 0, 0, 0, []), (30, .iaload, 0, 0, 0, []), (31, .aload_n 0, 0, 0, 0, [])],
  [(32, .getfield 94, 12, 41, 0, [7059]), (35, .iload_n 1, 0, 0, 0, []), (36, .iaload, 0, 0, 0, []), (37, .if_icmp .ne 7, 44, 0, 0, []), (40, .iconst 1, 0, 0, 0, []), (41, .goto 4, 45, 0, 0, []), (44, .iconst 0, 0, 0, 0, []), (45, .istore_n 2, 0, 0, 0, []), (46, .iconst 0, 0, 0, 0, []), (47, .istore_n 3, 0, 0, 0, []), (48, .aload_n 0, 0, 0, 0, []), (49, .getfield 91, 12, 40, 0, [7058]), (52, .iload_n 1, 0, 0, 0, []), (53, .iaload, 0, 0, 0, []), (54, .istore 4, 0, 0, 0, []), (56, .iload 4, 0, 0, 0, []), (58, .aload_n 0, 0, 0, 0, []), (59, .getfield 94, 12, 41, 0, [7059]), (62, .iload_n 1, 0, 0, 0, []), (63, .iaload, 0, 0, 0, [])],
  [(64, .if_icmp .ge 188, 252, 0, 0, []), (67, .aload_n 0, 0, 0, 0, []), (68, .aload_n 0, 0, 0, 0, []), (69, .getfield 113, 12, 48, 0, [7066]), (72, .iload 4, 0, 0, 0, []), (74, .iaload, 0, 0, 0, []), (75, .aload_n 0, 0, 0, 0, []), (76, .getfield 116, 12, 49, 0, [7067]), (79, .iload 4, 0, 0, 0, []), (81, .iaload, 0, 0, 0, []), (82, .invokevirtual 394, 238, 2, 12, [10036, 10038, 200, 1015, 10039]), (85, .istore 5, 0, 0, 0, []), (87, .aload_n 0, 0, 0, 0, []), (88, .aload_n 0, 0, 0, 0, []), (89, .getfield 116, 12, 49, 0, [7067]), (92, .iload 4, 0, 0, 0, []), (94, .iaload, 0, 0, 0, []), (95, .aload_n 0, 0, 0, 0, [])],
  [(96, .getfield 119, 12, 50, 0, [7068]), (99, .iload 4, 0, 0, 0, []), (101, .iaload, 0, 0, 0, []), (102, .invokevirtual 394, 238, 2, 12, [10036, 10038, 200, 1015, 10039]), (105, .istore 6, 0, 0, 0, []), (107, .aload_n 0, 0, 0, 0, []), (108, .getfield 103, 12, 45, 0, [7063]), (111, .iload 4, 0, 0, 0, []), (113, .iaload, 0, 0, 0, []), (114, .ifCond .ne 18, 132, 0, 0, []), (117, .iload 5, 0, 0, 0, []), (119, .iload 6, 0, 0, 0, []), (121, .if_icmp .ne 7, 128, 0, 0, []), (124, .iconst 1, 0, 0, 0, []), (125, .goto 71, 196, 0, 0, [])],
  [(128, .iconst 0, 0, 0, 0, []), (129, .goto 67, 196, 0, 0, []), (132, .aload_n 0, 0, 0, 0, []), (133, .getfield 103, 12, 45, 0, [7063]), (136, .iload 4, 0, 0, 0, []), (138, .iaload, 0, 0, 0, []), (139, .iconst 1, 0, 0, 0, []), (140, .if_icmp .ne 18, 158, 0, 0, []), (143, .iload 5, 0, 0, 0, []), (145, .iload 6, 0, 0, 0, []), (147, .if_icmp .eq 7, 154, 0, 0, []), (150, .iconst 1, 0, 0, 0, []), (151, .goto 45, 196, 0, 0, []), (154, .iconst 0, 0, 0, 0, []), (155, .goto 41, 196, 0, 0, []), (158, .aload_n 0, 0, 0, 0, []), (159, .getfield 103, 12, 45, 0, [7063])],
  [(162, .iload 4, 0, 0, 0, []), (164, .iaload, 0, 0, 0, []), (165, .iconst 2, 0, 0, 0, []), (166, .if_icmp .ne 18, 184, 0, 0, []), (169, .iload 5, 0, 0, 0, []), (171, .iload 6, 0, 0, 0, []), (173, .if_icmp .ge 7, 180, 0, 0, []), (176, .iconst 1, 0, 0, 0, []), (177, .goto 19, 196, 0, 0, []), (180, .iconst 0, 0, 0, 0, []), (181, .goto 15, 196, 0, 0, []), (184, .iload 5, 0, 0, 0, []), (186, .iload 6, 0, 0, 0, []), (188, .if_icmp .gt 7, 195, 0, 0, []), (191, .iconst 1, 0, 0, 0, [])],
  [(192, .goto 4, 196, 0, 0, []), (195, .iconst 0, 0, 0, 0, []), (196, .istore 7, 0, 0, 0, []), (198, .aload_n 0, 0, 0, 0, []), (199, .getfield 110, 12, 47, 0, [7065]), (202, .iload 4, 0, 0, 0, []), (204, .baload, 0, 0, 0, []), (205, .ifCond .eq 19, 224, 0, 0, []), (208, .iload_n 2, 0, 0, 0, []), (209, .ifCond .ne 7, 216, 0, 0, []), (212, .iload_n 3, 0, 0, 0, []), (213, .ifCond .eq 7, 220, 0, 0, []), (216, .iconst 1, 0, 0, 0, []), (217, .goto 4, 221, 0, 0, []), (220, .iconst 0, 0, 0, 0, []), (221, .istore_n 2, 0, 0, 0, []), (222, .iconst 1, 0, 0, 0, []), (223, .istore_n 3, 0, 0, 0, [])],
  [(224, .iload_n 3, 0, 0, 0, []), (225, .ifCond .eq 19, 244, 0, 0, []), (228, .iload 7, 0, 0, 0, []), (230, .aload_n 0, 0, 0, 0, []), (231, .getfield 106, 12, 46, 0, [7064]), (234, .iload 4, 0, 0, 0, []), (236, .baload, 0, 0, 0, []), (237, .if_icmp .eq 7, 244, 0, 0, []), (240, .iconst 1, 0, 0, 0, []), (241, .goto 4, 245, 0, 0, []), (244, .iconst 0, 0, 0, 0, []), (245, .istore_n 3, 0, 0, 0, []), (246, .iinc 4 1, 0, 0, 0, []), (249, .goto (-193), 56, 0, 0, []), (252, .iload_n 2, 0, 0, 0, []), (253, .ifCond .ne 7, 260, 0, 0, [])],
  [(256, .iload_n 3, 0, 0, 0, []), (257, .ifCond .eq 14, 271, 0, 0, []), (260, .aload_n 0, 0, 0, 0, []), (261, .getfield 390, 12, 58, 0, [7076]), (264, .ifCond .ne 7, 271, 0, 0, []), (267, .iconst 1, 0, 0, 0, []), (268, .goto 4, 272, 0, 0, []), (271, .iconst 0, 0, 0, 0, []), (272, .ireturn, 0, 0, 0, [])]]
def gP240 : List (List gE) := [
  [(0, .iload_n 1, 0, 0, 0, []), (1, .iconst 1, 0, 0, 0, []), (2, .if_icmp .lt 24, 26, 0, 0, []), (5, .iload_n 1, 0, 0, 0, []), (6, .bipush 60, 0, 0, 0, []), (8, .if_icmp .gt 18, 26, 0, 0, []), (11, .aload_n 0, 0, 0, 0, []), (12, .getfield 305, 12, 18, 0, [7036]), (15, .ifCond .gt 11, 26, 0, 0, []), (18, .aload_n 0, 0, 0, 0, []), (19, .getfield 240, 12, 60, 0, [7078]), (22, .iconst 1, 0, 0, 0, []), (23, .if_icmp .le 5, 28, 0, 0, []), (26, .iconst 0, 0, 0, 0, []), (27, .ireturn, 0, 0, 0, []), (28, .aload_n 0, 0, 0, 0, []), (29, .getfield 137, 12, 61, 0, [7079])],
  [(32, .iconst 0, 0, 0, 0, []), (33, .iload_n 1, 0, 0, 0, []), (34, .iastore, 0, 0, 0, []), (35, .iconst 1, 0, 0, 0, []), (36, .ireturn, 0, 0, 0, [])]]
def gP241 : List (List gE) := [
  [(0, .aload_n 0, 0, 0, 0, []), (1, .getfield 240, 12, 60, 0, [7078]), (4, .bipush 6, 0, 0, 0, []), (6, .if_icmp .eq 17, 23, 0, 0, []), (9, .aload_n 0, 0, 0, 0, []), (10, .getfield 137, 12, 61, 0, [7079]), (13, .aload_n 0, 0, 0, 0, []), (14, .getfield 240, 12, 60, 0, [7078]), (17, .iconst 1, 0, 0, 0, []), (18, .isub, 0, 0, 0, []), (19, .iaload, 0, 0, 0, []), (20, .ifCond .ne 5, 25, 0, 0, []), (23, .iconst (-1), 0, 0, 0, []), (24, .ireturn, 0, 0, 0, []), (25, .aload_n 0, 0, 0, 0, []), (26, .getfield 137, 12, 61, 0, [7079]), (29, .aload_n 0, 0, 0, 0, []), (30, .getfield 240, 12, 60, 0, [7078])],
  [(33, .iconst 0, 0, 0, 0, []), (34, .iastore, 0, 0, 0, []), (35, .aload_n 0, 0, 0, 0, []), (36, .getfield 140, 12, 62, 0, [7080]), (39, .aload_n 0, 0, 0, 0, []), (40, .getfield 240, 12, 60, 0, [7078]), (43, .iconst 0, 0, 0, 0, []), (44, .iastore, 0, 0, 0, []), (45, .aload_n 0, 0, 0, 0, []), (46, .dup, 0, 0, 0, []), (47, .getfield 240, 12, 60, 0, [7078]), (50, .iconst 1, 0, 0, 0, []), (51, .iadd, 0, 0, 0, []), (52, .putfield 240, 12, 60, 0, [7078]), (55, .aload_n 0, 0, 0, 0, []), (56, .getfield 240, 12, 60, 0, [7078]), (59, .iconst 1, 0, 0, 0, []), (60, .isub, 0, 0, 0, []), (61, .ireturn, 0, 0, 0, [])]]
def gP242 : List (List gE) := [
  [(0, .aload_n 0, 0, 0, 0, []), (1, .getfield 240, 12, 60, 0, [7078]), (4, .iconst 1, 0, 0, 0, []), (5, .isub, 0, 0, 0, []), (6, .istore_n 2, 0, 0, 0, []), (7, .iload_n 2, 0, 0, 0, []), (8, .ifCond .eq 27, 35, 0, 0, []), (11, .aload_n 0, 0, 0, 0, []), (12, .getfield 140, 12, 62, 0, [7080]), (15, .iload_n 2, 0, 0, 0, []), (16, .iaload, 0, 0, 0, []), (17, .bipush 10, 0, 0, 0, []), (19, .if_icmp .eq 16, 35, 0, 0, []), (22, .aload_n 0, 0, 0, 0, []), (23, .getfield 137, 12, 61, 0, [7079]), (26, .iload_n 2, 0, 0, 0, []), (27, .iaload, 0, 0, 0, []), (28, .iload_n 1, 0, 0, 0, []), (29, .iadd, 0, 0, 0, []), (30, .bipush 60, 0, 0, 0, [])],
  [(32, .if_icmp .le 5, 37, 0, 0, []), (35, .iconst 0, 0, 0, 0, []), (36, .ireturn, 0, 0, 0, []), (37, .iconst 0, 0, 0, 0, []), (38, .istore_n 3, 0, 0, 0, []), (39, .iload_n 3, 0, 0, 0, []), (40, .aload_n 0, 0, 0, 0, []), (41, .getfield 305, 12, 18, 0, [7036]), (44, .if_icmp .ge 21, 65, 0, 0, []), (47, .aload_n 0, 0, 0, 0, []), (48, .getfield 40, 12, 19, 0, [7037]), (51, .iload_n 3, 0, 0, 0, []), (52, .iaload, 0, 0, 0, []), (53, .iload_n 2, 0, 0, 0, []), (54, .if_icmp .ne 5, 59, 0, 0, []), (57, .iconst 0, 0, 0, 0, []), (58, .ireturn, 0, 0, 0, []), (59, .iinc 3 1, 0, 0, 0, []), (62, .goto (-23), 39, 0, 0, [])],
  [(65, .iconst 1, 0, 0, 0, []), (66, .ireturn, 0, 0, 0, [])]]
def gP243 : List (List gE) := [
  [(0, .aload_n 0, 0, 0, 0, []), (1, .getfield 240, 12, 60, 0, [7078]), (4, .iconst 1, 0, 0, 0, []), (5, .isub, 0, 0, 0, []), (6, .istore 4, 0, 0, 0, []), (8, .iconst 0, 0, 0, 0, []), (9, .istore 5, 0, 0, 0, []), (11, .iload 5, 0, 0, 0, []), (13, .iload_n 2, 0, 0, 0, []), (14, .if_icmp .ge 42, 56, 0, 0, []), (17, .aload_n 0, 0, 0, 0, []), (18, .getfield 143, 12, 63, 0, [7081]), (21, .bipush 60, 0, 0, 0, []), (23, .iload 4, 0, 0, 0, []), (25, .imul, 0, 0, 0, []), (26, .aload_n 0, 0, 0, 0, []), (27, .getfield 137, 12, 61, 0, [7079]), (30, .iload 4, 0, 0, 0, [])],
  [(32, .iaload, 0, 0, 0, []), (33, .iadd, 0, 0, 0, []), (34, .iload 5, 0, 0, 0, []), (36, .iadd, 0, 0, 0, []), (37, .iload_n 3, 0, 0, 0, []), (38, .ifCond .eq 7, 45, 0, 0, []), (41, .iconst (-1), 0, 0, 0, []), (42, .goto 7, 49, 0, 0, []), (45, .iload_n 1, 0, 0, 0, []), (46, .iload 5, 0, 0, 0, []), (48, .iadd, 0, 0, 0, []), (49, .iastore, 0, 0, 0, []), (50, .iinc 5 1, 0, 0, 0, []), (53, .goto (-42), 11, 0, 0, []), (56, .aload_n 0, 0, 0, 0, []), (57, .getfield 137, 12, 61, 0, [7079]), (60, .iload 4, 0, 0, 0, []), (62, .dup2, 0, 0, 0, []), (63, .iaload, 0, 0, 0, [])],
  [(64, .iload_n 2, 0, 0, 0, []), (65, .iadd, 0, 0, 0, []), (66, .iastore, 0, 0, 0, []), (67, .aload_n 0, 0, 0, 0, []), (68, .getfield 140, 12, 62, 0, [7080]), (71, .iload 4, 0, 0, 0, []), (73, .dup2, 0, 0, 0, []), (74, .iaload, 0, 0, 0, []), (75, .iconst 1, 0, 0, 0, []), (76, .iadd, 0, 0, 0, []), (77, .iastore, 0, 0, 0, []), (78, .aload_n 0, 0, 0, 0, []), (79, .getfield 137, 12, 61, 0, [7079]), (82, .iload 4, 0, 0, 0, []), (84, .iaload, 0, 0, 0, []), (85, .ireturn, 0, 0, 0, [])]]
def gP244 : List (List gE) := [
  [(0, .aload_n 0, 0, 0, 0, []), (1, .getfield 240, 12, 60, 0, [7078]), (4, .iconst 1, 0, 0, 0, []), (5, .isub, 0, 0, 0, []), (6, .istore_n 3, 0, 0, 0, []), (7, .iload_n 3, 0, 0, 0, []), (8, .ifCond .eq 34, 42, 0, 0, []), (11, .iload_n 1, 0, 0, 0, []), (12, .ifCond .lt 30, 42, 0, 0, []), (15, .iload_n 1, 0, 0, 0, []), (16, .iload_n 2, 0, 0, 0, []), (17, .if_icmp .ge 25, 42, 0, 0, []), (20, .iload_n 2, 0, 0, 0, []), (21, .aload_n 0, 0, 0, 0, []), (22, .getfield 137, 12, 61, 0, [7079]), (25, .iload_n 3, 0, 0, 0, []), (26, .iconst 1, 0, 0, 0, []), (27, .isub, 0, 0, 0, []), (28, .iaload, 0, 0, 0, []), (29, .if_icmp .gt 13, 42, 0, 0, [])],
  [(32, .aload_n 0, 0, 0, 0, []), (33, .iload_n 2, 0, 0, 0, []), (34, .iload_n 1, 0, 0, 0, []), (35, .isub, 0, 0, 0, []), (36, .invokevirtual 400, 242, 1, 12, [8226, 8228, 159, 1015, 8229]), (39, .ifCond .ne 5, 44, 0, 0, []), (42, .iconst (-1), 0, 0, 0, []), (43, .ireturn, 0, 0, 0, []), (44, .aload_n 0, 0, 0, 0, []), (45, .iload_n 1, 0, 0, 0, []), (46, .iload_n 2, 0, 0, 0, []), (47, .iload_n 1, 0, 0, 0, []), (48, .isub, 0, 0, 0, []), (49, .iconst 0, 0, 0, 0, []), (50, .invokevirtual 403, 243, 3, 12, [8230, 8232, 160, 1015, 8233]), (53, .ireturn, 0, 0, 0, [])]]
def gP245 : List (List gE) := [
  [(0, .iload_n 1, 0, 0, 0, []), (1, .iconst 1, 0, 0, 0, []), (2, .if_icmp .lt 17, 19, 0, 0, []), (5, .iload_n 1, 0, 0, 0, []), (6, .bipush 60, 0, 0, 0, []), (8, .if_icmp .gt 11, 19, 0, 0, []), (11, .aload_n 0, 0, 0, 0, []), (12, .iload_n 1, 0, 0, 0, []), (13, .invokevirtual 400, 242, 1, 12, [8226, 8228, 159, 1015, 8229]), (16, .ifCond .ne 5, 21, 0, 0, []), (19, .iconst (-1), 0, 0, 0, []), (20, .ireturn, 0, 0, 0, []), (21, .aload_n 0, 0, 0, 0, []), (22, .iconst 0, 0, 0, 0, []), (23, .iload_n 1, 0, 0, 0, []), (24, .iconst 1, 0, 0, 0, []), (25, .invokevirtual 403, 243, 3, 12, [8230, 8232, 160, 1015, 8233]), (28, .ireturn, 0, 0, 0, [])]]
def gP246 : List (List gE) := [
  [(0, .iload_n 1, 0, 0, 0, []), (1, .ifCond .lt 15, 16, 0, 0, []), (4, .iload_n 1, 0, 0, 0, []), (5, .aload_n 0, 0, 0, 0, []), (6, .getfield 240, 12, 60, 0, [7078]), (9, .if_icmp .ge 7, 16, 0, 0, []), (12, .iconst 1, 0, 0, 0, []), (13, .goto 4, 17, 0, 0, []), (16, .iconst 0, 0, 0, 0, []), (17, .ireturn, 0, 0, 0, [])]]
def gP247 : List (List gE) := [
  [(0, .aload_n 0, 0, 0, 0, []), (1, .iload_n 1, 0, 0, 0, []), (2, .invokevirtual 407, 246, 1, 12, [9002, 9004, 161, 1015, 9005]), (5, .ifCond .eq 12, 17, 0, 0, []), (8, .aload_n 0, 0, 0, 0, []), (9, .getfield 137, 12, 61, 0, [7079]), (12, .iload_n 1, 0, 0, 0, []), (13, .iaload, 0, 0, 0, []), (14, .goto 4, 18, 0, 0, []), (17, .iconst (-1), 0, 0, 0, []), (18, .ireturn, 0, 0, 0, [])]]
def gP248 : List (List gE) := [
  [(0, .iload_n 2, 0, 0, 0, []), (1, .istore 4, 0, 0, 0, []), (3, .iload_n 1, 0, 0, 0, []), (4, .istore 5, 0, 0, 0, []), (6, .iload 5, 0, 0, 0, []), (8, .iload_n 3, 0, 0, 0, []), (9, .if_icmp .le 30, 39, 0, 0, []), (12, .iload 4, 0, 0, 0, []), (14, .iconst (-1), 0, 0, 0, []), (15, .if_icmp .eq 24, 39, 0, 0, []), (18, .aload_n 0, 0, 0, 0, []), (19, .getfield 143, 12, 63, 0, [7081]), (22, .bipush 60, 0, 0, 0, []), (24, .iload 5, 0, 0, 0, []), (26, .imul, 0, 0, 0, []), (27, .iload 4, 0, 0, 0, []), (29, .iadd, 0, 0, 0, []), (30, .iaload, 0, 0, 0, []), (31, .istore 4, 0, 0, 0, [])],
  [(33, .iinc 5 (-1), 0, 0, 0, []), (36, .goto (-30), 6, 0, 0, []), (39, .iload 4, 0, 0, 0, []), (41, .ireturn, 0, 0, 0, [])]]
def gP249 : List (List gE) := [
  [(0, .aload_n 0, 0, 0, 0, []), (1, .iload_n 1, 0, 0, 0, []), (2, .invokevirtual 407, 246, 1, 12, [9002, 9004, 161, 1015, 9005]), (5, .ifCond .eq 26, 31, 0, 0, []), (8, .iload_n 3, 0, 0, 0, []), (9, .ifCond .lt 22, 31, 0, 0, []), (12, .iload_n 3, 0, 0, 0, []), (13, .iload_n 1, 0, 0, 0, []), (14, .if_icmp .gt 17, 31, 0, 0, []), (17, .iload_n 2, 0, 0, 0, []), (18, .ifCond .lt 13, 31, 0, 0, []), (21, .iload_n 2, 0, 0, 0, []), (22, .aload_n 0, 0, 0, 0, []), (23, .getfield 137, 12, 61, 0, [7079]), (26, .iload_n 1, 0, 0, 0, []), (27, .iaload, 0, 0, 0, []), (28, .if_icmp .lt 6, 34, 0, 0, []), (31, .bipush (-2), 0, 0, 0, [])],
  [(33, .ireturn, 0, 0, 0, []), (34, .aload_n 0, 0, 0, 0, []), (35, .iload_n 1, 0, 0, 0, []), (36, .iload_n 2, 0, 0, 0, []), (37, .iload_n 3, 0, 0, 0, []), (38, .invokevirtual 410, 248, 3, 12, [9010, 9012, 162, 1015, 9013]), (41, .ireturn, 0, 0, 0, [])]]
def gP250 : List (List gE) := [
  [(0, .iload_n 1, 0, 0, 0, []), (1, .ifCond .lt 15, 16, 0, 0, []), (4, .iload_n 1, 0, 0, 0, []), (5, .aload_n 0, 0, 0, 0, []), (6, .getfield 413, 12, 64, 0, [7082]), (9, .if_icmp .ge 7, 16, 0, 0, []), (12, .iconst 1, 0, 0, 0, []), (13, .goto 4, 17, 0, 0, []), (16, .iconst 0, 0, 0, 0, []), (17, .ireturn, 0, 0, 0, [])]]
def gP251 : List (List gE) := [
  [(0, .iload_n 0, 0, 0, 0, []), (1, .iload_n 1, 0, 0, 0, []), (2, .if_icmp .lt 12, 14, 0, 0, []), (5, .iload_n 0, 0, 0, 0, []), (6, .iload_n 2, 0, 0, 0, []), (7, .if_icmp .gt 7, 14, 0, 0, []), (10, .iconst 1, 0, 0, 0, []), (11, .goto 4, 15, 0, 0, []), (14, .iconst 0, 0, 0, 0, []), (15, .ireturn, 0, 0, 0, [])]]
def gP252 : List (List gE) := [
  [(0, .aload_n 0, 0, 0, 0, []), (1, .getfield 146, 12, 66, 0, [7084]), (4, .aload_n 0, 0, 0, 0, []), (5, .getfield 413, 12, 64, 0, [7082]), (8, .iload_n 1, 0, 0, 0, []), (9, .iastore, 0, 0, 0, []), (10, .aload_n 0, 0, 0, 0, []), (11, .getfield 149, 12, 67, 0, [7085]), (14, .aload_n 0, 0, 0, 0, []), (15, .getfield 413, 12, 64, 0, [7082]), (18, .iload_n 2, 0, 0, 0, []), (19, .iastore, 0, 0, 0, []), (20, .aload_n 0, 0, 0, 0, []), (21, .getfield 152, 12, 68, 0, [7086]), (24, .aload_n 0, 0, 0, 0, []), (25, .getfield 413, 12, 64, 0, [7082]), (28, .iload_n 3, 0, 0, 0, []), (29, .iastore, 0, 0, 0, []), (30, .aload_n 0, 0, 0, 0, []), (31, .getfield 155, 12, 69, 0, [7087])],
  [(34, .aload_n 0, 0, 0, 0, []), (35, .getfield 413, 12, 64, 0, [7082]), (38, .iload 4, 0, 0, 0, []), (40, .iastore, 0, 0, 0, []), (41, .aload_n 0, 0, 0, 0, []), (42, .getfield 158, 12, 70, 0, [7088]), (45, .aload_n 0, 0, 0, 0, []), (46, .getfield 413, 12, 64, 0, [7082]), (49, .iload 5, 0, 0, 0, []), (51, .iastore, 0, 0, 0, []), (52, .aload_n 0, 0, 0, 0, []), (53, .getfield 164, 12, 72, 0, [7090]), (56, .aload_n 0, 0, 0, 0, []), (57, .getfield 413, 12, 64, 0, [7082]), (60, .iconst 0, 0, 0, 0, []), (61, .iastore, 0, 0, 0, []), (62, .aload_n 0, 0, 0, 0, []), (63, .getfield 167, 12, 73, 0, [7091])],
  [(66, .aload_n 0, 0, 0, 0, []), (67, .getfield 413, 12, 64, 0, [7082]), (70, .iconst (-1), 0, 0, 0, []), (71, .iastore, 0, 0, 0, []), (72, .aload_n 0, 0, 0, 0, []), (73, .getfield 170, 12, 74, 0, [7092]), (76, .aload_n 0, 0, 0, 0, []), (77, .getfield 413, 12, 64, 0, [7082]), (80, .iconst (-1), 0, 0, 0, []), (81, .iastore, 0, 0, 0, []), (82, .aload_n 0, 0, 0, 0, []), (83, .getfield 176, 12, 76, 0, [7094]), (86, .aload_n 0, 0, 0, 0, []), (87, .getfield 413, 12, 64, 0, [7082]), (90, .iconst 0, 0, 0, 0, []), (91, .iastore, 0, 0, 0, []), (92, .aload_n 0, 0, 0, 0, []), (93, .dup, 0, 0, 0, []), (94, .getfield 416, 12, 65, 0, [7083])],
  [(97, .iconst 1, 0, 0, 0, []), (98, .iadd, 0, 0, 0, []), (99, .putfield 416, 12, 65, 0, [7083]), (102, .aload_n 0, 0, 0, 0, []), (103, .getfield 161, 12, 71, 0, [7089]), (106, .aload_n 0, 0, 0, 0, []), (107, .getfield 413, 12, 64, 0, [7082]), (110, .aload_n 0, 0, 0, 0, []), (111, .getfield 416, 12, 65, 0, [7083]), (114, .iastore, 0, 0, 0, []), (115, .aload_n 0, 0, 0, 0, []), (116, .dup, 0, 0, 0, []), (117, .getfield 413, 12, 64, 0, [7082]), (120, .iconst 1, 0, 0, 0, []), (121, .iadd, 0, 0, 0, []), (122, .putfield 413, 12, 64, 0, [7082]), (125, .aload_n 0, 0, 0, 0, []), (126, .getfield 413, 12, 64, 0, [7082])],
  [(129, .iconst 1, 0, 0, 0, []), (130, .isub, 0, 0, 0, []), (131, .ireturn, 0, 0, 0, [])]]
def gP253 : List (List gE) := [
  [(0, .aload_n 0, 0, 0, 0, []), (1, .getfield 413, 12, 64, 0, [7082]), (4, .bipush 20, 0, 0, 0, []), (6, .if_icmp .eq 28, 34, 0, 0, []), (9, .iload_n 1, 0, 0, 0, []), (10, .iconst 0, 0, 0, 0, []), (11, .iconst 3, 0, 0, 0, []), (12, .invokestatic 419, 251, 3, 0, [9018, 9019, 1015, 9020]), (15, .ifCond .eq 19, 34, 0, 0, []), (18, .iload_n 2, 0, 0, 0, []), (19, .iconst (-1), 0, 0, 0, []), (20, .if_icmp .eq 16, 36, 0, 0, []), (23, .iload_n 2, 0, 0, 0, []), (24, .iconst 1, 0, 0, 0, []), (25, .sipush 240, 0, 0, 0, []), (28, .invokestatic 419, 251, 3, 0, [9018, 9019, 1015, 9020]), (31, .ifCond .ne 5, 36, 0, 0, [])],
  [(34, .iconst (-1), 0, 0, 0, []), (35, .ireturn, 0, 0, 0, []), (36, .iload_n 1, 0, 0, 0, []), (37, .iconst 1, 0, 0, 0, []), (38, .if_icmp .ne 30, 68, 0, 0, []), (41, .iload_n 3, 0, 0, 0, []), (42, .ifCond .lt 41, 83, 0, 0, []), (45, .iload_n 3, 0, 0, 0, []), (46, .iload 4, 0, 0, 0, []), (48, .if_icmp .ge 35, 83, 0, 0, []), (51, .iload 4, 0, 0, 0, []), (53, .iload_n 2, 0, 0, 0, []), (54, .iconst (-1), 0, 0, 0, []), (55, .if_icmp .ne 9, 64, 0, 0, []), (58, .sipush 240, 0, 0, 0, []), (61, .goto 4, 65, 0, 0, [])],
  [(64, .iload_n 2, 0, 0, 0, []), (65, .if_icmp .gt 18, 83, 0, 0, []), (68, .iload_n 1, 0, 0, 0, []), (69, .iconst 3, 0, 0, 0, []), (70, .if_icmp .ne 15, 85, 0, 0, []), (73, .iload_n 3, 0, 0, 0, []), (74, .iconst 0, 0, 0, 0, []), (75, .bipush 7, 0, 0, 0, []), (77, .invokestatic 419, 251, 3, 0, [9018, 9019, 1015, 9020]), (80, .ifCond .ne 5, 85, 0, 0, []), (83, .iconst (-1), 0, 0, 0, []), (84, .ireturn, 0, 0, 0, []), (85, .aload_n 0, 0, 0, 0, []), (86, .iload_n 1, 0, 0, 0, []), (87, .iload_n 2, 0, 0, 0, []), (88, .iload_n 3, 0, 0, 0, []), (89, .iload 4, 0, 0, 0, []), (91, .iconst (-1), 0, 0, 0, []), (92, .invokevirtual 423, 252, 5, 12, [9021, 9023, 163, 1015, 9024]), (95, .ireturn, 0, 0, 0, [])]]
def gP254 : List (List gE) := [
  [(0, .aload_n 0, 0, 0, 0, []), (1, .getfield 413, 12, 64, 0, [7082]), (4, .bipush 20, 0, 0, 0, []), (6, .if_icmp .eq 27, 33, 0, 0, []), (9, .aload_n 0, 0, 0, 0, []), (10, .iload_n 1, 0, 0, 0, []), (11, .invokevirtual 427, 250, 1, 12, [9029, 9031, 164, 1015, 9032]), (14, .ifCond .eq 19, 33, 0, 0, []), (17, .iload_n 2, 0, 0, 0, []), (18, .ifCond .lt 15, 33, 0, 0, []), (21, .iload_n 2, 0, 0, 0, []), (22, .iload_n 3, 0, 0, 0, []), (23, .if_icmp .ge 10, 33, 0, 0, []), (26, .iload_n 3, 0, 0, 0, []), (27, .sipush 240, 0, 0, 0, []), (30, .if_icmp .le 7, 37, 0, 0, [])],
  [(33, .iconst (-1), 0, 0, 0, []), (34, .goto 12, 46, 0, 0, []), (37, .aload_n 0, 0, 0, 0, []), (38, .iconst 4, 0, 0, 0, []), (39, .iconst 0, 0, 0, 0, []), (40, .iload_n 2, 0, 0, 0, []), (41, .iload_n 3, 0, 0, 0, []), (42, .iload_n 1, 0, 0, 0, []), (43, .invokevirtual 423, 252, 5, 12, [9021, 9023, 163, 1015, 9024]), (46, .ireturn, 0, 0, 0, [])]]
def gP255 : List (List gE) := [
  [(0, .aload_n 0, 0, 0, 0, []), (1, .getfield 413, 12, 64, 0, [7082]), (4, .bipush 20, 0, 0, 0, []), (6, .if_icmp .eq 21, 27, 0, 0, []), (9, .aload_n 0, 0, 0, 0, []), (10, .iload_n 1, 0, 0, 0, []), (11, .invokevirtual 427, 250, 1, 12, [9029, 9031, 164, 1015, 9032]), (14, .ifCond .eq 13, 27, 0, 0, []), (17, .aload_n 0, 0, 0, 0, []), (18, .getfield 146, 12, 66, 0, [7084]), (21, .iload_n 1, 0, 0, 0, []), (22, .iaload, 0, 0, 0, []), (23, .iconst 2, 0, 0, 0, []), (24, .if_icmp .eq 7, 31, 0, 0, []), (27, .iconst (-1), 0, 0, 0, []), (28, .goto 12, 40, 0, 0, []), (31, .aload_n 0, 0, 0, 0, [])],
  [(32, .iconst 5, 0, 0, 0, []), (33, .iconst 0, 0, 0, 0, []), (34, .iconst 0, 0, 0, 0, []), (35, .iconst 0, 0, 0, 0, []), (36, .iload_n 1, 0, 0, 0, []), (37, .invokevirtual 423, 252, 5, 12, [9021, 9023, 163, 1015, 9024]), (40, .ireturn, 0, 0, 0, [])]]
def gP256 : List (List gE) := [
  [(0, .aload_n 0, 0, 0, 0, []), (1, .getfield 413, 12, 64, 0, [7082]), (4, .bipush 20, 0, 0, 0, []), (6, .if_icmp .ne 7, 13, 0, 0, []), (9, .iconst (-1), 0, 0, 0, []), (10, .goto 13, 23, 0, 0, []), (13, .aload_n 0, 0, 0, 0, []), (14, .bipush 6, 0, 0, 0, []), (16, .iconst 0, 0, 0, 0, []), (17, .iconst 0, 0, 0, 0, []), (18, .iconst 0, 0, 0, 0, []), (19, .iconst (-1), 0, 0, 0, []), (20, .invokevirtual 423, 252, 5, 12, [9021, 9023, 163, 1015, 9024]), (23, .ireturn, 0, 0, 0, [])]]
def gP257 : List (List gE) := [
  [(0, .aload_n 0, 0, 0, 0, []), (1, .iload_n 1, 0, 0, 0, []), (2, .invokevirtual 427, 250, 1, 12, [9029, 9031, 164, 1015, 9032]), (5, .ifCond .eq 27, 32, 0, 0, []), (8, .aload_n 0, 0, 0, 0, []), (9, .getfield 146, 12, 66, 0, [7084]), (12, .iload_n 1, 0, 0, 0, []), (13, .iaload, 0, 0, 0, []), (14, .iconst 4, 0, 0, 0, []), (15, .if_icmp .ge 17, 32, 0, 0, []), (18, .aload_n 0, 0, 0, 0, []), (19, .getfield 149, 12, 67, 0, [7085]), (22, .iload_n 1, 0, 0, 0, []), (23, .iaload, 0, 0, 0, []), (24, .iconst (-1), 0, 0, 0, []), (25, .if_icmp .eq 7, 32, 0, 0, []), (28, .iconst 1, 0, 0, 0, []), (29, .goto 4, 33, 0, 0, [])],
  [(32, .iconst 0, 0, 0, 0, []), (33, .ireturn, 0, 0, 0, [])]]
def gP258 : List (List gE) := [
  [(0, .aload_n 0, 0, 0, 0, []), (1, .dup, 0, 0, 0, []), (2, .getfield 416, 12, 65, 0, [7083]), (5, .iconst 1, 0, 0, 0, []), (6, .iadd, 0, 0, 0, []), (7, .putfield 416, 12, 65, 0, [7083]), (10, .aload_n 0, 0, 0, 0, []), (11, .getfield 161, 12, 71, 0, [7089]), (14, .iload_n 1, 0, 0, 0, []), (15, .aload_n 0, 0, 0, 0, []), (16, .getfield 416, 12, 65, 0, [7083]), (19, .iastore, 0, 0, 0, []), (20, .return_, 0, 0, 0, [])]]
def gP259 : List (List gE) := [
  [(0, .aload_n 0, 0, 0, 0, []), (1, .iload_n 1, 0, 0, 0, []), (2, .invokevirtual 430, 257, 1, 12, [9045, 9047, 165, 1015, 9048]), (5, .ifCond .eq 22, 27, 0, 0, []), (8, .iload_n 2, 0, 0, 0, []), (9, .ifCond .lt 18, 27, 0, 0, []), (12, .iload_n 2, 0, 0, 0, []), (13, .iload_n 3, 0, 0, 0, []), (14, .if_icmp .ge 13, 27, 0, 0, []), (17, .iload_n 3, 0, 0, 0, []), (18, .aload_n 0, 0, 0, 0, []), (19, .getfield 149, 12, 67, 0, [7085]), (22, .iload_n 1, 0, 0, 0, []), (23, .iaload, 0, 0, 0, []), (24, .if_icmp .le 5, 29, 0, 0, []), (27, .iconst 0, 0, 0, 0, []), (28, .ireturn, 0, 0, 0, []), (29, .iload 4, 0, 0, 0, []), (31, .i2l, 0, 0, 0, [])],
  [(32, .iload_n 3, 0, 0, 0, []), (33, .i2l, 0, 0, 0, []), (34, .lconst 1, 0, 0, 0, []), (35, .lsub, 0, 0, 0, []), (36, .iload_n 2, 0, 0, 0, []), (37, .i2l, 0, 0, 0, []), (38, .lsub, 0, 0, 0, []), (39, .iload 5, 0, 0, 0, []), (41, .i2l, 0, 0, 0, []), (42, .lmul, 0, 0, 0, []), (43, .ladd, 0, 0, 0, []), (44, .lstore 6, 0, 0, 0, []), (46, .iload 4, 0, 0, 0, []), (48, .sipush (-9999), 0, 0, 0, []), (51, .sipush 9999, 0, 0, 0, []), (54, .invokestatic 419, 251, 3, 0, [9018, 9019, 1015, 9020]), (57, .ifCond .eq 21, 78, 0, 0, []), (60, .lload 6, 0, 0, 0, []), (62, .ldc2_w 433, 0, 0, -9999, [9049])],
  [(65, .lcmp, 0, 0, 0, []), (66, .ifCond .lt 12, 78, 0, 0, []), (69, .lload 6, 0, 0, 0, []), (71, .ldc2_w 435, 0, 0, 9999, [9050]), (74, .lcmp, 0, 0, 0, []), (75, .ifCond .le 5, 80, 0, 0, []), (78, .iconst 0, 0, 0, 0, []), (79, .ireturn, 0, 0, 0, []), (80, .iload_n 2, 0, 0, 0, []), (81, .istore 8, 0, 0, 0, []), (83, .iload 8, 0, 0, 0, []), (85, .iload_n 3, 0, 0, 0, []), (86, .if_icmp .ge 32, 118, 0, 0, []), (89, .aload_n 0, 0, 0, 0, []), (90, .getfield 173, 12, 75, 0, [7093]), (93, .sipush 240, 0, 0, 0, [])],
  [(96, .iload_n 1, 0, 0, 0, []), (97, .imul, 0, 0, 0, []), (98, .iload 8, 0, 0, 0, []), (100, .iadd, 0, 0, 0, []), (101, .iload 4, 0, 0, 0, []), (103, .iload 8, 0, 0, 0, []), (105, .iload_n 2, 0, 0, 0, []), (106, .isub, 0, 0, 0, []), (107, .iload 5, 0, 0, 0, []), (109, .imul, 0, 0, 0, []), (110, .iadd, 0, 0, 0, []), (111, .iastore, 0, 0, 0, []), (112, .iinc 8 1, 0, 0, 0, []), (115, .goto (-32), 83, 0, 0, []), (118, .aload_n 0, 0, 0, 0, []), (119, .iload_n 1, 0, 0, 0, []), (120, .invokevirtual 437, 258, 1, 12, [9051, 9053, 166, 1015, 9054]), (123, .iconst 1, 0, 0, 0, []), (124, .ireturn, 0, 0, 0, [])]]
def gP260 : List (List gE) := [
  [(0, .aload_n 0, 0, 0, 0, []), (1, .iload_n 1, 0, 0, 0, []), (2, .invokevirtual 430, 257, 1, 12, [9045, 9047, 165, 1015, 9048]), (5, .ifCond .eq 30, 35, 0, 0, []), (8, .iload_n 2, 0, 0, 0, []), (9, .ifCond .lt 26, 35, 0, 0, []), (12, .iload_n 2, 0, 0, 0, []), (13, .aload_n 0, 0, 0, 0, []), (14, .getfield 149, 12, 67, 0, [7085]), (17, .iload_n 1, 0, 0, 0, []), (18, .iaload, 0, 0, 0, []), (19, .if_icmp .ge 16, 35, 0, 0, []), (22, .iload_n 3, 0, 0, 0, []), (23, .sipush (-9999), 0, 0, 0, []), (26, .sipush 9999, 0, 0, 0, []), (29, .invokestatic 419, 251, 3, 0, [9018, 9019, 1015, 9020])],
  [(32, .ifCond .ne 5, 37, 0, 0, []), (35, .iconst 0, 0, 0, 0, []), (36, .ireturn, 0, 0, 0, []), (37, .aload_n 0, 0, 0, 0, []), (38, .getfield 173, 12, 75, 0, [7093]), (41, .sipush 240, 0, 0, 0, []), (44, .iload_n 1, 0, 0, 0, []), (45, .imul, 0, 0, 0, []), (46, .iload_n 2, 0, 0, 0, []), (47, .iadd, 0, 0, 0, []), (48, .iload_n 3, 0, 0, 0, []), (49, .iastore, 0, 0, 0, []), (50, .aload_n 0, 0, 0, 0, []), (51, .iload_n 1, 0, 0, 0, []), (52, .invokevirtual 437, 258, 1, 12, [9051, 9053, 166, 1015, 9054]), (55, .iconst 1, 0, 0, 0, []), (56, .ireturn, 0, 0, 0, [])]]
def gP261 : List (List gE) := [
  [(0, .aload_n 0, 0, 0, 0, []), (1, .iload_n 1, 0, 0, 0, []), (2, .invokevirtual 427, 250, 1, 12, [9029, 9031, 164, 1015, 9032]), (5, .ifCond .eq 34, 39, 0, 0, []), (8, .aload_n 0, 0, 0, 0, []), (9, .getfield 146, 12, 66, 0, [7084]), (12, .iload_n 1, 0, 0, 0, []), (13, .iaload, 0, 0, 0, []), (14, .iconst 2, 0, 0, 0, []), (15, .if_icmp .ne 24, 39, 0, 0, []), (18, .aload_n 0, 0, 0, 0, []), (19, .getfield 176, 12, 76, 0, [7094]), (22, .iload_n 1, 0, 0, 0, []), (23, .iaload, 0, 0, 0, []), (24, .bipush 8, 0, 0, 0, []), (26, .if_icmp .eq 13, 39, 0, 0, []), (29, .iload_n 2, 0, 0, 0, []), (30, .iconst 0, 0, 0, 0, []), (31, .bipush 59, 0, 0, 0, [])],
  [(33, .invokestatic 419, 251, 3, 0, [9018, 9019, 1015, 9020]), (36, .ifCond .ne 5, 41, 0, 0, []), (39, .iconst (-1), 0, 0, 0, []), (40, .ireturn, 0, 0, 0, []), (41, .aload_n 0, 0, 0, 0, []), (42, .getfield 179, 12, 77, 0, [7095]), (45, .bipush 8, 0, 0, 0, []), (47, .iload_n 1, 0, 0, 0, []), (48, .imul, 0, 0, 0, []), (49, .aload_n 0, 0, 0, 0, []), (50, .getfield 176, 12, 76, 0, [7094]), (53, .iload_n 1, 0, 0, 0, []), (54, .iaload, 0, 0, 0, []), (55, .iadd, 0, 0, 0, []), (56, .iload_n 2, 0, 0, 0, []), (57, .iastore, 0, 0, 0, []), (58, .aload_n 0, 0, 0, 0, []), (59, .getfield 176, 12, 76, 0, [7094]), (62, .iload_n 1, 0, 0, 0, []), (63, .dup2, 0, 0, 0, [])],
  [(64, .iaload, 0, 0, 0, []), (65, .iconst 1, 0, 0, 0, []), (66, .iadd, 0, 0, 0, []), (67, .iastore, 0, 0, 0, []), (68, .aload_n 0, 0, 0, 0, []), (69, .getfield 176, 12, 76, 0, [7094]), (72, .iload_n 1, 0, 0, 0, []), (73, .iaload, 0, 0, 0, []), (74, .ireturn, 0, 0, 0, [])]]
def gP262 : List (List gE) := [
  [(0, .iload_n 1, 0, 0, 0, []), (1, .iconst 0, 0, 0, 0, []), (2, .bipush 7, 0, 0, 0, []), (4, .invokestatic 419, 251, 3, 0, [9018, 9019, 1015, 9020]), (7, .ifCond .eq 13, 20, 0, 0, []), (10, .iload_n 2, 0, 0, 0, []), (11, .iconst 0, 0, 0, 0, []), (12, .bipush 60, 0, 0, 0, []), (14, .invokestatic 419, 251, 3, 0, [9018, 9019, 1015, 9020]), (17, .ifCond .ne 5, 22, 0, 0, []), (20, .iconst 0, 0, 0, 0, []), (21, .ireturn, 0, 0, 0, []), (22, .aload_n 0, 0, 0, 0, []), (23, .getfield 182, 12, 78, 0, [7096]), (26, .iload_n 1, 0, 0, 0, []), (27, .iload_n 2, 0, 0, 0, []), (28, .iastore, 0, 0, 0, []), (29, .aload_n 0, 0, 0, 0, []), (30, .dup, 0, 0, 0, []), (31, .getfield 416, 12, 65, 0, [7083])],
  [(34, .iconst 1, 0, 0, 0, []), (35, .iadd, 0, 0, 0, []), (36, .putfield 416, 12, 65, 0, [7083]), (39, .aload_n 0, 0, 0, 0, []), (40, .getfield 185, 12, 79, 0, [7097]), (43, .iload_n 1, 0, 0, 0, []), (44, .aload_n 0, 0, 0, 0, []), (45, .getfield 416, 12, 65, 0, [7083]), (48, .iastore, 0, 0, 0, []), (49, .iconst 1, 0, 0, 0, []), (50, .ireturn, 0, 0, 0, [])]]
def gP263 : List (List gE) := [
  [(0, .iload_n 1, 0, 0, 0, []), (1, .iconst 0, 0, 0, 0, []), (2, .bipush 7, 0, 0, 0, []), (4, .invokestatic 419, 251, 3, 0, [9018, 9019, 1015, 9020]), (7, .ifCond .eq 14, 21, 0, 0, []), (10, .iload_n 2, 0, 0, 0, []), (11, .iconst 0, 0, 0, 0, []), (12, .sipush 999, 0, 0, 0, []), (15, .invokestatic 419, 251, 3, 0, [9018, 9019, 1015, 9020]), (18, .ifCond .ne 5, 23, 0, 0, []), (21, .iconst 0, 0, 0, 0, []), (22, .ireturn, 0, 0, 0, []), (23, .aload_n 0, 0, 0, 0, []), (24, .getfield 188, 12, 80, 0, [7098]), (27, .iload_n 1, 0, 0, 0, []), (28, .iload_n 2, 0, 0, 0, []), (29, .iastore, 0, 0, 0, []), (30, .iconst 1, 0, 0, 0, []), (31, .ireturn, 0, 0, 0, [])]]
def gP264 : List (List gE) := [
  [(0, .iload_n 1, 0, 0, 0, []), (1, .istore_n 2, 0, 0, 0, []), (2, .aload_n 0, 0, 0, 0, []), (3, .getfield 146, 12, 66, 0, [7084]), (6, .iload_n 2, 0, 0, 0, []), (7, .iaload, 0, 0, 0, []), (8, .iconst 4, 0, 0, 0, []), (9, .if_icmp .ne 13, 22, 0, 0, []), (12, .aload_n 0, 0, 0, 0, []), (13, .getfield 158, 12, 70, 0, [7088]), (16, .iload_n 2, 0, 0, 0, []), (17, .iaload, 0, 0, 0, []), (18, .istore_n 2, 0, 0, 0, []), (19, .goto (-17), 2, 0, 0, []), (22, .iload_n 2, 0, 0, 0, []), (23, .ireturn, 0, 0, 0, [])]]
def gP265 : List (List gE) := [
  [(0, .iconst 0, 0, 0, 0, []), (1, .istore_n 2, 0, 0, 0, []), (2, .iload_n 1, 0, 0, 0, []), (3, .istore_n 3, 0, 0, 0, []), (4, .aload_n 0, 0, 0, 0, []), (5, .getfield 146, 12, 66, 0, [7084]), (8, .iload_n 3, 0, 0, 0, []), (9, .iaload, 0, 0, 0, []), (10, .iconst 4, 0, 0, 0, []), (11, .if_icmp .ne 23, 34, 0, 0, []), (14, .aload_n 0, 0, 0, 0, []), (15, .getfield 191, 12, 81, 0, [7099]), (18, .iload_n 2, 0, 0, 0, []), (19, .iload_n 3, 0, 0, 0, []), (20, .iastore, 0, 0, 0, []), (21, .iinc 2 1, 0, 0, 0, []), (24, .aload_n 0, 0, 0, 0, []), (25, .getfield 158, 12, 70, 0, [7088]), (28, .iload_n 3, 0, 0, 0, []), (29, .iaload, 0, 0, 0, []), (30, .istore_n 3, 0, 0, 0, []), (31, .goto (-27), 4, 0, 0, [])],
  [(34, .aload_n 0, 0, 0, 0, []), (35, .getfield 149, 12, 67, 0, [7085]), (38, .aload_n 0, 0, 0, 0, []), (39, .getfield 146, 12, 66, 0, [7084]), (42, .iload_n 3, 0, 0, 0, []), (43, .iaload, 0, 0, 0, []), (44, .iconst 5, 0, 0, 0, []), (45, .if_icmp .ne 12, 57, 0, 0, []), (48, .aload_n 0, 0, 0, 0, []), (49, .getfield 158, 12, 70, 0, [7088]), (52, .iload_n 3, 0, 0, 0, []), (53, .iaload, 0, 0, 0, []), (54, .goto 4, 58, 0, 0, []), (57, .iload_n 3, 0, 0, 0, []), (58, .iaload, 0, 0, 0, []), (59, .istore 4, 0, 0, 0, []), (61, .iload 4, 0, 0, 0, []), (63, .iconst (-1), 0, 0, 0, [])],
  [(64, .if_icmp .ne 6, 70, 0, 0, []), (67, .iconst 0, 0, 0, 0, []), (68, .istore 4, 0, 0, 0, []), (70, .iload_n 2, 0, 0, 0, []), (71, .iconst 1, 0, 0, 0, []), (72, .isub, 0, 0, 0, []), (73, .istore 5, 0, 0, 0, []), (75, .iload 5, 0, 0, 0, []), (77, .ifCond .lt 83, 160, 0, 0, []), (80, .aload_n 0, 0, 0, 0, []), (81, .getfield 155, 12, 69, 0, [7087]), (84, .aload_n 0, 0, 0, 0, []), (85, .getfield 191, 12, 81, 0, [7099]), (88, .iload 5, 0, 0, 0, []), (90, .iaload, 0, 0, 0, []), (91, .iaload, 0, 0, 0, []), (92, .iload 4, 0, 0, 0, []), (94, .if_icmp .ge 18, 112, 0, 0, [])],
  [(97, .aload_n 0, 0, 0, 0, []), (98, .getfield 155, 12, 69, 0, [7087]), (101, .aload_n 0, 0, 0, 0, []), (102, .getfield 191, 12, 81, 0, [7099]), (105, .iload 5, 0, 0, 0, []), (107, .iaload, 0, 0, 0, []), (108, .iaload, 0, 0, 0, []), (109, .goto 5, 114, 0, 0, []), (112, .iload 4, 0, 0, 0, []), (114, .istore 6, 0, 0, 0, []), (116, .iload 6, 0, 0, 0, []), (118, .aload_n 0, 0, 0, 0, []), (119, .getfield 152, 12, 68, 0, [7086]), (122, .aload_n 0, 0, 0, 0, []), (123, .getfield 191, 12, 81, 0, [7099]), (126, .iload 5, 0, 0, 0, [])],
  [(128, .iaload, 0, 0, 0, []), (129, .iaload, 0, 0, 0, []), (130, .if_icmp .le 21, 151, 0, 0, []), (133, .iload 6, 0, 0, 0, []), (135, .aload_n 0, 0, 0, 0, []), (136, .getfield 152, 12, 68, 0, [7086]), (139, .aload_n 0, 0, 0, 0, []), (140, .getfield 191, 12, 81, 0, [7099]), (143, .iload 5, 0, 0, 0, []), (145, .iaload, 0, 0, 0, []), (146, .iaload, 0, 0, 0, []), (147, .isub, 0, 0, 0, []), (148, .goto 4, 152, 0, 0, []), (151, .iconst 0, 0, 0, 0, []), (152, .istore 4, 0, 0, 0, []), (154, .iinc 5 (-1), 0, 0, 0, []), (157, .goto (-82), 75, 0, 0, [])],
  [(160, .iload 4, 0, 0, 0, []), (162, .ireturn, 0, 0, 0, [])]]
def gP266 : List (List gE) := [
  [(0, .iload_n 2, 0, 0, 0, []), (1, .ifCond .lt 12, 13, 0, 0, []), (4, .iload_n 2, 0, 0, 0, []), (5, .aload_n 0, 0, 0, 0, []), (6, .iload_n 1, 0, 0, 0, []), (7, .invokevirtual 440, 265, 1, 12, [9075, 9077, 167, 1015, 9078]), (10, .if_icmp .lt 5, 15, 0, 0, []), (13, .iconst 0, 0, 0, 0, []), (14, .ireturn, 0, 0, 0, []), (15, .iload_n 1, 0, 0, 0, []), (16, .istore_n 3, 0, 0, 0, []), (17, .iload_n 2, 0, 0, 0, []), (18, .istore 4, 0, 0, 0, []), (20, .aload_n 0, 0, 0, 0, []), (21, .getfield 146, 12, 66, 0, [7084]), (24, .iload_n 3, 0, 0, 0, []), (25, .iaload, 0, 0, 0, []), (26, .iconst 4, 0, 0, 0, []), (27, .if_icmp .ne 24, 51, 0, 0, []), (30, .iload 4, 0, 0, 0, [])],
  [(32, .aload_n 0, 0, 0, 0, []), (33, .getfield 152, 12, 68, 0, [7086]), (36, .iload_n 3, 0, 0, 0, []), (37, .iaload, 0, 0, 0, []), (38, .iadd, 0, 0, 0, []), (39, .istore 4, 0, 0, 0, []), (41, .aload_n 0, 0, 0, 0, []), (42, .getfield 158, 12, 70, 0, [7088]), (45, .iload_n 3, 0, 0, 0, []), (46, .iaload, 0, 0, 0, []), (47, .istore_n 3, 0, 0, 0, []), (48, .goto (-28), 20, 0, 0, []), (51, .aload_n 0, 0, 0, 0, []), (52, .getfield 146, 12, 66, 0, [7084]), (55, .iload_n 3, 0, 0, 0, []), (56, .iaload, 0, 0, 0, []), (57, .iconst 5, 0, 0, 0, []), (58, .if_icmp .ne 7, 65, 0, 0, []), (61, .iconst 0, 0, 0, 0, []), (62, .goto 16, 78, 0, 0, [])],
  [(65, .aload_n 0, 0, 0, 0, []), (66, .getfield 173, 12, 75, 0, [7093]), (69, .sipush 240, 0, 0, 0, []), (72, .iload_n 3, 0, 0, 0, []), (73, .imul, 0, 0, 0, []), (74, .iload 4, 0, 0, 0, []), (76, .iadd, 0, 0, 0, []), (77, .iaload, 0, 0, 0, []), (78, .ireturn, 0, 0, 0, [])]]
def gP267 : List (List gE) := [
  [(0, .aload_n 0, 0, 0, 0, []), (1, .iload_n 1, 0, 0, 0, []), (2, .invokevirtual 427, 250, 1, 12, [9029, 9031, 164, 1015, 9032]), (5, .ifCond .eq 11, 16, 0, 0, []), (8, .aload_n 0, 0, 0, 0, []), (9, .iload_n 1, 0, 0, 0, []), (10, .invokevirtual 440, 265, 1, 12, [9075, 9077, 167, 1015, 9078]), (13, .goto 4, 17, 0, 0, []), (16, .iconst (-1), 0, 0, 0, []), (17, .ireturn, 0, 0, 0, [])]]
def gP268 : List (List gE) := [
  [(0, .aload_n 0, 0, 0, 0, []), (1, .iload_n 1, 0, 0, 0, []), (2, .invokevirtual 427, 250, 1, 12, [9029, 9031, 164, 1015, 9032]), (5, .ifCond .eq 12, 17, 0, 0, []), (8, .aload_n 0, 0, 0, 0, []), (9, .iload_n 1, 0, 0, 0, []), (10, .iload_n 2, 0, 0, 0, []), (11, .invokevirtual 443, 266, 2, 12, [9083, 9085, 168, 1015, 9086]), (14, .goto 4, 18, 0, 0, []), (17, .iconst 0, 0, 0, 0, []), (18, .ireturn, 0, 0, 0, [])]]
def gP269 : List (List gE) := [
  [(0, .iload_n 1, 0, 0, 0, []), (1, .iconst (-1), 0, 0, 0, []), (2, .if_icmp .ne 9, 11, 0, 0, []), (5, .iload_n 2, 0, 0, 0, []), (6, .iload_n 3, 0, 0, 0, []), (7, .iadd, 0, 0, 0, []), (8, .goto 11, 19, 0, 0, []), (11, .aload_n 0, 0, 0, 0, []), (12, .getfield 182, 12, 78, 0, [7096]), (15, .iload_n 1, 0, 0, 0, []), (16, .iaload, 0, 0, 0, []), (17, .iload_n 2, 0, 0, 0, []), (18, .iadd, 0, 0, 0, []), (19, .ireturn, 0, 0, 0, [])]]
def gP270 : List (List gE) := [
  [(0, .aload_n 0, 0, 0, 0, []), (1, .iconst 0, 0, 0, 0, []), (2, .putfield 446, 12, 82, 0, [7100]), (5, .iconst 0, 0, 0, 0, []), (6, .istore_n 2, 0, 0, 0, []), (7, .aload_n 0, 0, 0, 0, []), (8, .getfield 200, 12, 85, 0, [7103]), (11, .iconst 0, 0, 0, 0, []), (12, .bipush 7, 0, 0, 0, []), (14, .iload_n 1, 0, 0, 0, []), (15, .imul, 0, 0, 0, []), (16, .bipush 6, 0, 0, 0, []), (18, .iadd, 0, 0, 0, []), (19, .iastore, 0, 0, 0, []), (20, .aload_n 0, 0, 0, 0, []), (21, .getfield 203, 12, 86, 0, [7104]), (24, .iconst 0, 0, 0, 0, []), (25, .iconst 0, 0, 0, 0, []), (26, .iastore, 0, 0, 0, []), (27, .aload_n 0, 0, 0, 0, []), (28, .getfield 206, 12, 87, 0, [7105]), (31, .iconst 0, 0, 0, 0, [])],
  [(32, .iconst 0, 0, 0, 0, []), (33, .iastore, 0, 0, 0, []), (34, .iload_n 2, 0, 0, 0, []), (35, .ifCond .lt 168, 203, 0, 0, []), (38, .aload_n 0, 0, 0, 0, []), (39, .getfield 203, 12, 86, 0, [7104]), (42, .iload_n 2, 0, 0, 0, []), (43, .iaload, 0, 0, 0, []), (44, .aload_n 0, 0, 0, 0, []), (45, .getfield 49, 12, 22, 0, [7040]), (48, .aload_n 0, 0, 0, 0, []), (49, .getfield 200, 12, 85, 0, [7103]), (52, .iload_n 2, 0, 0, 0, []), (53, .iaload, 0, 0, 0, []), (54, .iaload, 0, 0, 0, []), (55, .if_icmp .ne 9, 64, 0, 0, []), (58, .iinc 2 (-1), 0, 0, 0, []), (61, .goto (-27), 34, 0, 0, [])],
  [(64, .bipush 16, 0, 0, 0, []), (66, .aload_n 0, 0, 0, 0, []), (67, .getfield 200, 12, 85, 0, [7103]), (70, .iload_n 2, 0, 0, 0, []), (71, .iaload, 0, 0, 0, []), (72, .imul, 0, 0, 0, []), (73, .aload_n 0, 0, 0, 0, []), (74, .getfield 203, 12, 86, 0, [7104]), (77, .iload_n 2, 0, 0, 0, []), (78, .iaload, 0, 0, 0, []), (79, .iadd, 0, 0, 0, []), (80, .istore_n 3, 0, 0, 0, []), (81, .aload_n 0, 0, 0, 0, []), (82, .getfield 203, 12, 86, 0, [7104]), (85, .iload_n 2, 0, 0, 0, []), (86, .dup2, 0, 0, 0, []), (87, .iaload, 0, 0, 0, []), (88, .iconst 1, 0, 0, 0, []), (89, .iadd, 0, 0, 0, []), (90, .iastore, 0, 0, 0, []), (91, .aload_n 0, 0, 0, 0, []), (92, .getfield 55, 12, 24, 0, [7042]), (95, .iload_n 3, 0, 0, 0, [])],
  [(96, .iaload, 0, 0, 0, []), (97, .iconst 5, 0, 0, 0, []), (98, .if_icmp .eq 41, 139, 0, 0, []), (101, .aload_n 0, 0, 0, 0, []), (102, .getfield 194, 12, 83, 0, [7101]), (105, .aload_n 0, 0, 0, 0, []), (106, .getfield 446, 12, 82, 0, [7100]), (109, .iload_n 3, 0, 0, 0, []), (110, .iastore, 0, 0, 0, []), (111, .aload_n 0, 0, 0, 0, []), (112, .getfield 197, 12, 84, 0, [7102]), (115, .aload_n 0, 0, 0, 0, []), (116, .getfield 446, 12, 82, 0, [7100]), (119, .aload_n 0, 0, 0, 0, []), (120, .getfield 206, 12, 87, 0, [7105]), (123, .iload_n 2, 0, 0, 0, []), (124, .iaload, 0, 0, 0, []), (125, .iastore, 0, 0, 0, []), (126, .aload_n 0, 0, 0, 0, []), (127, .dup, 0, 0, 0, [])],
  [(128, .getfield 446, 12, 82, 0, [7100]), (131, .iconst 1, 0, 0, 0, []), (132, .iadd, 0, 0, 0, []), (133, .putfield 446, 12, 82, 0, [7100]), (136, .goto (-102), 34, 0, 0, []), (139, .aload_n 0, 0, 0, 0, []), (140, .getfield 206, 12, 87, 0, [7105]), (143, .iload_n 2, 0, 0, 0, []), (144, .iconst 1, 0, 0, 0, []), (145, .iadd, 0, 0, 0, []), (146, .aload_n 0, 0, 0, 0, []), (147, .aload_n 0, 0, 0, 0, []), (148, .getfield 64, 12, 27, 0, [7045]), (151, .iload_n 3, 0, 0, 0, []), (152, .iaload, 0, 0, 0, []), (153, .aload_n 0, 0, 0, 0, []), (154, .getfield 67, 12, 28, 0, [7046]), (157, .iload_n 3, 0, 0, 0, []), (158, .iaload, 0, 0, 0, []), (159, .aload_n 0, 0, 0, 0, [])],
  [(160, .getfield 206, 12, 87, 0, [7105]), (163, .iload_n 2, 0, 0, 0, []), (164, .iaload, 0, 0, 0, []), (165, .invokevirtual 449, 269, 3, 12, [9107, 9109, 173, 1015, 9110]), (168, .iastore, 0, 0, 0, []), (169, .aload_n 0, 0, 0, 0, []), (170, .getfield 200, 12, 85, 0, [7103]), (173, .iload_n 2, 0, 0, 0, []), (174, .iconst 1, 0, 0, 0, []), (175, .iadd, 0, 0, 0, []), (176, .bipush 7, 0, 0, 0, []), (178, .iload_n 1, 0, 0, 0, []), (179, .imul, 0, 0, 0, []), (180, .aload_n 0, 0, 0, 0, []), (181, .getfield 61, 12, 26, 0, [7044]), (184, .iload_n 3, 0, 0, 0, []), (185, .iaload, 0, 0, 0, []), (186, .iadd, 0, 0, 0, []), (187, .iastore, 0, 0, 0, []), (188, .aload_n 0, 0, 0, 0, []), (189, .getfield 203, 12, 86, 0, [7104])],
  [(192, .iload_n 2, 0, 0, 0, []), (193, .iconst 1, 0, 0, 0, []), (194, .iadd, 0, 0, 0, []), (195, .iconst 0, 0, 0, 0, []), (196, .iastore, 0, 0, 0, []), (197, .iinc 2 1, 0, 0, 0, []), (200, .goto (-166), 34, 0, 0, []), (203, .return_, 0, 0, 0, [])]]
def gP271 : List (List gE) := [
  [(0, .aload_n 0, 0, 0, 0, []), (1, .aload_n 0, 0, 0, 0, []), (2, .getfield 64, 12, 27, 0, [7045]), (5, .aload_n 0, 0, 0, 0, []), (6, .getfield 194, 12, 83, 0, [7101]), (9, .iload_n 1, 0, 0, 0, []), (10, .iaload, 0, 0, 0, []), (11, .iaload, 0, 0, 0, []), (12, .aload_n 0, 0, 0, 0, []), (13, .getfield 67, 12, 28, 0, [7046]), (16, .aload_n 0, 0, 0, 0, []), (17, .getfield 194, 12, 83, 0, [7101]), (20, .iload_n 1, 0, 0, 0, []), (21, .iaload, 0, 0, 0, []), (22, .iaload, 0, 0, 0, []), (23, .aload_n 0, 0, 0, 0, []), (24, .getfield 197, 12, 84, 0, [7102]), (27, .iload_n 1, 0, 0, 0, []), (28, .iaload, 0, 0, 0, []), (29, .invokevirtual 449, 269, 3, 12, [9107, 9109, 173, 1015, 9110])],
  [(32, .ireturn, 0, 0, 0, [])]]
def gP272 : List (List gE) := [
  [(0, .aload_n 0, 0, 0, 0, []), (1, .aload_n 0, 0, 0, 0, []), (2, .getfield 70, 12, 29, 0, [7047]), (5, .aload_n 0, 0, 0, 0, []), (6, .getfield 194, 12, 83, 0, [7101]), (9, .iload_n 1, 0, 0, 0, []), (10, .iaload, 0, 0, 0, []), (11, .iaload, 0, 0, 0, []), (12, .aload_n 0, 0, 0, 0, []), (13, .getfield 73, 12, 30, 0, [7048]), (16, .aload_n 0, 0, 0, 0, []), (17, .getfield 194, 12, 83, 0, [7101]), (20, .iload_n 1, 0, 0, 0, []), (21, .iaload, 0, 0, 0, []), (22, .iaload, 0, 0, 0, []), (23, .aload_n 0, 0, 0, 0, []), (24, .getfield 197, 12, 84, 0, [7102]), (27, .iload_n 1, 0, 0, 0, []), (28, .iaload, 0, 0, 0, []), (29, .invokevirtual 449, 269, 3, 12, [9107, 9109, 173, 1015, 9110])],
  [(32, .ireturn, 0, 0, 0, [])]]
def gP273 : List (List gE) := [
  [(0, .aload_n 0, 0, 0, 0, []), (1, .getfield 194, 12, 83, 0, [7101]), (4, .iload_n 1, 0, 0, 0, []), (5, .iaload, 0, 0, 0, []), (6, .istore_n 3, 0, 0, 0, []), (7, .aload_n 0, 0, 0, 0, []), (8, .getfield 61, 12, 26, 0, [7044]), (11, .iload_n 3, 0, 0, 0, []), (12, .iaload, 0, 0, 0, []), (13, .istore 4, 0, 0, 0, []), (15, .iload_n 2, 0, 0, 0, []), (16, .iconst 4, 0, 0, 0, []), (17, .aload_n 0, 0, 0, 0, []), (18, .iload_n 1, 0, 0, 0, []), (19, .invokevirtual 452, 271, 1, 12, [9135, 9137, 179, 1015, 9138]), (22, .imul, 0, 0, 0, []), (23, .isub, 0, 0, 0, []), (24, .istore 5, 0, 0, 0, []), (26, .aload_n 0, 0, 0, 0, []), (27, .iload 4, 0, 0, 0, []), (29, .invokevirtual 427, 250, 1, 12, [9029, 9031, 164, 1015, 9032])],
  [(32, .ifCond .eq 41, 73, 0, 0, []), (35, .iload 5, 0, 0, 0, []), (37, .ifCond .lt 36, 73, 0, 0, []), (40, .aload_n 0, 0, 0, 0, []), (41, .getfield 76, 12, 31, 0, [7049]), (44, .bipush 6, 0, 0, 0, []), (46, .iload_n 3, 0, 0, 0, []), (47, .imul, 0, 0, 0, []), (48, .iconst 1, 0, 0, 0, []), (49, .iadd, 0, 0, 0, []), (50, .iaload, 0, 0, 0, []), (51, .iconst (-1), 0, 0, 0, []), (52, .if_icmp .eq 23, 75, 0, 0, []), (55, .iload 5, 0, 0, 0, []), (57, .iconst 4, 0, 0, 0, []), (58, .aload_n 0, 0, 0, 0, []), (59, .getfield 76, 12, 31, 0, [7049]), (62, .bipush 6, 0, 0, 0, [])],
  [(64, .iload_n 3, 0, 0, 0, []), (65, .imul, 0, 0, 0, []), (66, .iconst 1, 0, 0, 0, []), (67, .iadd, 0, 0, 0, []), (68, .iaload, 0, 0, 0, []), (69, .imul, 0, 0, 0, []), (70, .if_icmp .lt 5, 75, 0, 0, []), (73, .iconst 0, 0, 0, 0, []), (74, .ireturn, 0, 0, 0, []), (75, .aload_n 0, 0, 0, 0, []), (76, .iconst 4, 0, 0, 0, []), (77, .aload_n 0, 0, 0, 0, []), (78, .getfield 76, 12, 31, 0, [7049]), (81, .bipush 6, 0, 0, 0, []), (83, .iload_n 3, 0, 0, 0, []), (84, .imul, 0, 0, 0, []), (85, .iaload, 0, 0, 0, []), (86, .imul, 0, 0, 0, []), (87, .iload 5, 0, 0, 0, []), (89, .aload_n 0, 0, 0, 0, []), (90, .getfield 76, 12, 31, 0, [7049]), (93, .bipush 6, 0, 0, 0, []), (95, .iload_n 3, 0, 0, 0, [])],
  [(96, .imul, 0, 0, 0, []), (97, .iconst 3, 0, 0, 0, []), (98, .iadd, 0, 0, 0, []), (99, .iaload, 0, 0, 0, []), (100, .imul, 0, 0, 0, []), (101, .aload_n 0, 0, 0, 0, []), (102, .getfield 76, 12, 31, 0, [7049]), (105, .bipush 6, 0, 0, 0, []), (107, .iload_n 3, 0, 0, 0, []), (108, .imul, 0, 0, 0, []), (109, .iconst 4, 0, 0, 0, []), (110, .iadd, 0, 0, 0, []), (111, .iaload, 0, 0, 0, []), (112, .idiv, 0, 0, 0, []), (113, .iadd, 0, 0, 0, []), (114, .putfield 455, 12, 88, 0, [7106]), (117, .aload_n 0, 0, 0, 0, []), (118, .getfield 146, 12, 66, 0, [7084]), (121, .iload 4, 0, 0, 0, []), (123, .iaload, 0, 0, 0, []), (124, .iconst 1, 0, 0, 0, []), (125, .if_icmp .ne 57, 182, 0, 0, [])],
  [(128, .aload_n 0, 0, 0, 0, []), (129, .getfield 455, 12, 88, 0, [7106]), (132, .aload_n 0, 0, 0, 0, []), (133, .getfield 155, 12, 69, 0, [7087]), (136, .iload 4, 0, 0, 0, []), (138, .iaload, 0, 0, 0, []), (139, .if_icmp .lt 43, 182, 0, 0, []), (142, .aload_n 0, 0, 0, 0, []), (143, .aload_n 0, 0, 0, 0, []), (144, .getfield 152, 12, 68, 0, [7086]), (147, .iload 4, 0, 0, 0, []), (149, .iaload, 0, 0, 0, []), (150, .aload_n 0, 0, 0, 0, []), (151, .getfield 455, 12, 88, 0, [7106]), (154, .aload_n 0, 0, 0, 0, []), (155, .getfield 152, 12, 68, 0, [7086]), (158, .iload 4, 0, 0, 0, [])],
  [(160, .iaload, 0, 0, 0, []), (161, .isub, 0, 0, 0, []), (162, .aload_n 0, 0, 0, 0, []), (163, .getfield 155, 12, 69, 0, [7087]), (166, .iload 4, 0, 0, 0, []), (168, .iaload, 0, 0, 0, []), (169, .aload_n 0, 0, 0, 0, []), (170, .getfield 152, 12, 68, 0, [7086]), (173, .iload 4, 0, 0, 0, []), (175, .iaload, 0, 0, 0, []), (176, .isub, 0, 0, 0, []), (177, .irem, 0, 0, 0, []), (178, .iadd, 0, 0, 0, []), (179, .putfield 455, 12, 88, 0, [7106]), (182, .aload_n 0, 0, 0, 0, []), (183, .getfield 455, 12, 88, 0, [7106]), (186, .aload_n 0, 0, 0, 0, []), (187, .iload 4, 0, 0, 0, []), (189, .invokevirtual 440, 265, 1, 12, [9075, 9077, 167, 1015, 9078])],
  [(192, .if_icmp .ge 7, 199, 0, 0, []), (195, .iconst 1, 0, 0, 0, []), (196, .goto 4, 200, 0, 0, []), (199, .iconst 0, 0, 0, 0, []), (200, .ireturn, 0, 0, 0, [])]]
def gP274 : List (List gE) := [
  [(0, .aload_n 0, 0, 0, 0, []), (1, .iload_n 1, 0, 0, 0, []), (2, .invokevirtual 458, 270, 1, 12, [9103, 9105, 172, 1015, 9106]), (5, .aload_n 0, 0, 0, 0, []), (6, .iconst 4, 0, 0, 0, []), (7, .aload_n 0, 0, 0, 0, []), (8, .getfield 137, 12, 61, 0, [7079]), (11, .aload_n 0, 0, 0, 0, []), (12, .getfield 40, 12, 19, 0, [7037]), (15, .iload_n 1, 0, 0, 0, []), (16, .iaload, 0, 0, 0, []), (17, .iaload, 0, 0, 0, []), (18, .imul, 0, 0, 0, []), (19, .putfield 461, 12, 93, 0, [7111]), (22, .iconst 0, 0, 0, 0, []), (23, .istore_n 2, 0, 0, 0, []), (24, .iload_n 2, 0, 0, 0, []), (25, .sipush 720, 0, 0, 0, []), (28, .if_icmp .ge 23, 51, 0, 0, []), (31, .aload_n 0, 0, 0, 0, [])],
  [(32, .getfield 209, 12, 89, 0, [7107]), (35, .iload_n 2, 0, 0, 0, []), (36, .lconst 0, 0, 0, 0, []), (37, .lastore, 0, 0, 0, []), (38, .aload_n 0, 0, 0, 0, []), (39, .getfield 212, 12, 90, 0, [7108]), (42, .iload_n 2, 0, 0, 0, []), (43, .iconst 0, 0, 0, 0, []), (44, .bastore, 0, 0, 0, []), (45, .iinc 2 1, 0, 0, 0, []), (48, .goto (-24), 24, 0, 0, []), (51, .iconst 0, 0, 0, 0, []), (52, .istore_n 2, 0, 0, 0, []), (53, .iconst 0, 0, 0, 0, []), (54, .istore_n 3, 0, 0, 0, []), (55, .iload_n 3, 0, 0, 0, []), (56, .aload_n 0, 0, 0, 0, []), (57, .getfield 446, 12, 82, 0, [7100]), (60, .if_icmp .ge 181, 241, 0, 0, []), (63, .aload_n 0, 0, 0, 0, [])],
  [(64, .getfield 194, 12, 83, 0, [7101]), (67, .iload_n 3, 0, 0, 0, []), (68, .iaload, 0, 0, 0, []), (69, .istore 4, 0, 0, 0, []), (71, .aload_n 0, 0, 0, 0, []), (72, .getfield 55, 12, 24, 0, [7042]), (75, .iload 4, 0, 0, 0, []), (77, .iaload, 0, 0, 0, []), (78, .ifCond .eq 6, 84, 0, 0, []), (81, .goto 154, 235, 0, 0, []), (84, .iload_n 2, 0, 0, 0, []), (85, .bipush 8, 0, 0, 0, []), (87, .if_icmp .ge 32, 119, 0, 0, []), (90, .aload_n 0, 0, 0, 0, []), (91, .getfield 464, 12, 94, 0, [7112]), (94, .iload_n 2, 0, 0, 0, []), (95, .ishr, 0, 0, 0, [])],
  [(96, .iconst 1, 0, 0, 0, []), (97, .iand, 0, 0, 0, []), (98, .iconst 1, 0, 0, 0, []), (99, .if_icmp .ne 20, 119, 0, 0, []), (102, .aload_n 0, 0, 0, 0, []), (103, .getfield 76, 12, 31, 0, [7049]), (106, .bipush 6, 0, 0, 0, []), (108, .iload 4, 0, 0, 0, []), (110, .imul, 0, 0, 0, []), (111, .iconst 2, 0, 0, 0, []), (112, .iadd, 0, 0, 0, []), (113, .iaload, 0, 0, 0, []), (114, .iconst 2, 0, 0, 0, []), (115, .idiv, 0, 0, 0, []), (116, .goto 15, 131, 0, 0, []), (119, .aload_n 0, 0, 0, 0, []), (120, .getfield 76, 12, 31, 0, [7049]), (123, .bipush 6, 0, 0, 0, []), (125, .iload 4, 0, 0, 0, []), (127, .imul, 0, 0, 0, [])],
  [(128, .iconst 2, 0, 0, 0, []), (129, .iadd, 0, 0, 0, []), (130, .iaload, 0, 0, 0, []), (131, .istore 5, 0, 0, 0, []), (133, .aload_n 0, 0, 0, 0, []), (134, .getfield 76, 12, 31, 0, [7049]), (137, .bipush 6, 0, 0, 0, []), (139, .iload 4, 0, 0, 0, []), (141, .imul, 0, 0, 0, []), (142, .iconst 5, 0, 0, 0, []), (143, .iadd, 0, 0, 0, []), (144, .iaload, 0, 0, 0, []), (145, .istore 6, 0, 0, 0, []), (147, .iinc 2 1, 0, 0, 0, []), (150, .iconst 0, 0, 0, 0, []), (151, .istore 7, 0, 0, 0, []), (153, .iload 7, 0, 0, 0, []), (155, .aload_n 0, 0, 0, 0, []), (156, .getfield 461, 12, 93, 0, [7111]), (159, .if_icmp .ge 76, 235, 0, 0, [])],
  [(162, .aload_n 0, 0, 0, 0, []), (163, .iload_n 3, 0, 0, 0, []), (164, .iload 7, 0, 0, 0, []), (166, .invokevirtual 467, 273, 2, 12, [9131, 9133, 178, 1015, 9134]), (169, .ifCond .ne 6, 175, 0, 0, []), (172, .goto 57, 229, 0, 0, []), (175, .aload_n 0, 0, 0, 0, []), (176, .getfield 212, 12, 90, 0, [7108]), (179, .sipush 240, 0, 0, 0, []), (182, .iload 6, 0, 0, 0, []), (184, .imul, 0, 0, 0, []), (185, .iload 7, 0, 0, 0, []), (187, .iadd, 0, 0, 0, []), (188, .iconst 1, 0, 0, 0, []), (189, .bastore, 0, 0, 0, []), (190, .aload_n 0, 0, 0, 0, []), (191, .getfield 209, 12, 89, 0, [7107])],
  [(194, .sipush 240, 0, 0, 0, []), (197, .iload 6, 0, 0, 0, []), (199, .imul, 0, 0, 0, []), (200, .iload 7, 0, 0, 0, []), (202, .iadd, 0, 0, 0, []), (203, .dup2, 0, 0, 0, []), (204, .laload, 0, 0, 0, []), (205, .aload_n 0, 0, 0, 0, []), (206, .aload_n 0, 0, 0, 0, []), (207, .getfield 61, 12, 26, 0, [7044]), (210, .iload 4, 0, 0, 0, []), (212, .iaload, 0, 0, 0, []), (213, .aload_n 0, 0, 0, 0, []), (214, .getfield 455, 12, 88, 0, [7106]), (217, .invokevirtual 443, 266, 2, 12, [9083, 9085, 168, 1015, 9086]), (220, .iload 5, 0, 0, 0, []), (222, .imul, 0, 0, 0, []), (223, .bipush 100, 0, 0, 0, [])],
  [(225, .idiv, 0, 0, 0, []), (226, .i2l, 0, 0, 0, []), (227, .ladd, 0, 0, 0, []), (228, .lastore, 0, 0, 0, []), (229, .iinc 7 1, 0, 0, 0, []), (232, .goto (-79), 153, 0, 0, []), (235, .iinc 3 1, 0, 0, 0, []), (238, .goto (-183), 55, 0, 0, []), (241, .iconst 0, 0, 0, 0, []), (242, .istore_n 3, 0, 0, 0, []), (243, .iload_n 3, 0, 0, 0, []), (244, .iconst 3, 0, 0, 0, []), (245, .if_icmp .ge 66, 311, 0, 0, []), (248, .iconst 0, 0, 0, 0, []), (249, .istore 4, 0, 0, 0, []), (251, .iload 4, 0, 0, 0, []), (253, .aload_n 0, 0, 0, 0, []), (254, .getfield 461, 12, 93, 0, [7111])],
  [(257, .if_icmp .ge 48, 305, 0, 0, []), (260, .aload_n 0, 0, 0, 0, []), (261, .getfield 209, 12, 89, 0, [7107]), (264, .sipush 240, 0, 0, 0, []), (267, .iload_n 3, 0, 0, 0, []), (268, .imul, 0, 0, 0, []), (269, .iload 4, 0, 0, 0, []), (271, .iadd, 0, 0, 0, []), (272, .aload_n 0, 0, 0, 0, []), (273, .getfield 209, 12, 89, 0, [7107]), (276, .sipush 240, 0, 0, 0, []), (279, .iload_n 3, 0, 0, 0, []), (280, .imul, 0, 0, 0, []), (281, .iload 4, 0, 0, 0, []), (283, .iadd, 0, 0, 0, []), (284, .laload, 0, 0, 0, []), (285, .aload_n 0, 0, 0, 0, []), (286, .iload_n 3, 0, 0, 0, []), (287, .iload 4, 0, 0, 0, [])],
  [(289, .invokevirtual 471, 275, 2, 12, [9139, 9141, 180, 1015, 9142]), (292, .i2l, 0, 0, 0, []), (293, .lmul, 0, 0, 0, []), (294, .ldc2_w 474, 0, 0, 100, [9147]), (297, .ldiv, 0, 0, 0, []), (298, .lastore, 0, 0, 0, []), (299, .iinc 4 1, 0, 0, 0, []), (302, .goto (-51), 251, 0, 0, []), (305, .iinc 3 1, 0, 0, 0, []), (308, .goto (-65), 243, 0, 0, []), (311, .iconst 0, 0, 0, 0, []), (312, .istore_n 3, 0, 0, 0, []), (313, .iload_n 3, 0, 0, 0, []), (314, .aload_n 0, 0, 0, 0, []), (315, .getfield 446, 12, 82, 0, [7100]), (318, .if_icmp .ge 34, 352, 0, 0, [])],
  [(321, .aload_n 0, 0, 0, 0, []), (322, .getfield 55, 12, 24, 0, [7042]), (325, .aload_n 0, 0, 0, 0, []), (326, .getfield 194, 12, 83, 0, [7101]), (329, .iload_n 3, 0, 0, 0, []), (330, .iaload, 0, 0, 0, []), (331, .iaload, 0, 0, 0, []), (332, .iconst 2, 0, 0, 0, []), (333, .if_icmp .ne 13, 346, 0, 0, []), (336, .aload_n 0, 0, 0, 0, []), (337, .aload_n 0, 0, 0, 0, []), (338, .getfield 194, 12, 83, 0, [7101]), (341, .iload_n 3, 0, 0, 0, []), (342, .iaload, 0, 0, 0, []), (343, .invokevirtual 476, 276, 1, 12, [9148, 9150, 182, 1015, 9151]), (346, .iinc 3 1, 0, 0, 0, []), (349, .goto (-36), 313, 0, 0, [])],
  [(352, .iconst 0, 0, 0, 0, []), (353, .istore_n 3, 0, 0, 0, []), (354, .iload_n 3, 0, 0, 0, []), (355, .aload_n 0, 0, 0, 0, []), (356, .getfield 446, 12, 82, 0, [7100]), (359, .if_icmp .ge 34, 393, 0, 0, []), (362, .aload_n 0, 0, 0, 0, []), (363, .getfield 55, 12, 24, 0, [7042]), (366, .aload_n 0, 0, 0, 0, []), (367, .getfield 194, 12, 83, 0, [7101]), (370, .iload_n 3, 0, 0, 0, []), (371, .iaload, 0, 0, 0, []), (372, .iaload, 0, 0, 0, []), (373, .iconst 3, 0, 0, 0, []), (374, .if_icmp .ne 13, 387, 0, 0, []), (377, .aload_n 0, 0, 0, 0, []), (378, .aload_n 0, 0, 0, 0, []), (379, .getfield 194, 12, 83, 0, [7101]), (382, .iload_n 3, 0, 0, 0, []), (383, .iaload, 0, 0, 0, [])],
  [(384, .invokevirtual 479, 277, 1, 12, [9152, 9154, 183, 1015, 9155]), (387, .iinc 3 1, 0, 0, 0, []), (390, .goto (-36), 354, 0, 0, []), (393, .sipush 9999, 0, 0, 0, []), (396, .istore_n 3, 0, 0, 0, []), (397, .iconst 0, 0, 0, 0, []), (398, .istore 4, 0, 0, 0, []), (400, .iload 4, 0, 0, 0, []), (402, .aload_n 0, 0, 0, 0, []), (403, .getfield 446, 12, 82, 0, [7100]), (406, .if_icmp .ge 38, 444, 0, 0, []), (409, .aload_n 0, 0, 0, 0, []), (410, .getfield 55, 12, 24, 0, [7042]), (413, .aload_n 0, 0, 0, 0, []), (414, .getfield 194, 12, 83, 0, [7101])],
  [(417, .iload 4, 0, 0, 0, []), (419, .iaload, 0, 0, 0, []), (420, .iaload, 0, 0, 0, []), (421, .iconst 4, 0, 0, 0, []), (422, .if_icmp .ne 16, 438, 0, 0, []), (425, .aload_n 0, 0, 0, 0, []), (426, .getfield 61, 12, 26, 0, [7044]), (429, .aload_n 0, 0, 0, 0, []), (430, .getfield 194, 12, 83, 0, [7101]), (433, .iload 4, 0, 0, 0, []), (435, .iaload, 0, 0, 0, []), (436, .iaload, 0, 0, 0, []), (437, .istore_n 3, 0, 0, 0, []), (438, .iinc 4 1, 0, 0, 0, []), (441, .goto (-41), 400, 0, 0, []), (444, .iconst 0, 0, 0, 0, []), (445, .istore 4, 0, 0, 0, []), (447, .iload 4, 0, 0, 0, [])],
  [(449, .aload_n 0, 0, 0, 0, []), (450, .getfield 461, 12, 93, 0, [7111]), (453, .if_icmp .ge 80, 533, 0, 0, []), (456, .aload_n 0, 0, 0, 0, []), (457, .getfield 209, 12, 89, 0, [7107]), (460, .iload 4, 0, 0, 0, []), (462, .laload, 0, 0, 0, []), (463, .aload_n 0, 0, 0, 0, []), (464, .getfield 209, 12, 89, 0, [7107]), (467, .sipush 240, 0, 0, 0, []), (470, .iload 4, 0, 0, 0, []), (472, .iadd, 0, 0, 0, []), (473, .laload, 0, 0, 0, []), (474, .ladd, 0, 0, 0, []), (475, .aload_n 0, 0, 0, 0, []), (476, .getfield 209, 12, 89, 0, [7107]), (479, .sipush 480, 0, 0, 0, [])],
  [(482, .iload 4, 0, 0, 0, []), (484, .iadd, 0, 0, 0, []), (485, .laload, 0, 0, 0, []), (486, .ladd, 0, 0, 0, []), (487, .lstore 5, 0, 0, 0, []), (489, .aload_n 0, 0, 0, 0, []), (490, .getfield 218, 12, 92, 0, [7110]), (493, .iload 4, 0, 0, 0, []), (495, .lload 5, 0, 0, 0, []), (497, .iload_n 3, 0, 0, 0, []), (498, .ineg, 0, 0, 0, []), (499, .i2l, 0, 0, 0, []), (500, .lcmp, 0, 0, 0, []), (501, .ifCond .ge 9, 510, 0, 0, []), (504, .iload_n 3, 0, 0, 0, []), (505, .ineg, 0, 0, 0, []), (506, .i2l, 0, 0, 0, []), (507, .goto 18, 525, 0, 0, []), (510, .lload 5, 0, 0, 0, [])],
  [(512, .iload_n 3, 0, 0, 0, []), (513, .i2l, 0, 0, 0, []), (514, .lcmp, 0, 0, 0, []), (515, .ifCond .le 8, 523, 0, 0, []), (518, .iload_n 3, 0, 0, 0, []), (519, .i2l, 0, 0, 0, []), (520, .goto 5, 525, 0, 0, []), (523, .lload 5, 0, 0, 0, []), (525, .l2i, 0, 0, 0, []), (526, .iastore, 0, 0, 0, []), (527, .iinc 4 1, 0, 0, 0, []), (530, .goto (-83), 447, 0, 0, []), (533, .return_, 0, 0, 0, [])]]
def gP275 : List (List gE) := [
  [(0, .iconst (-1), 0, 0, 0, []), (1, .istore_n 3, 0, 0, 0, []), (2, .iconst 0, 0, 0, 0, []), (3, .istore 4, 0, 0, 0, []), (5, .iload 4, 0, 0, 0, []), (7, .aload_n 0, 0, 0, 0, []), (8, .getfield 446, 12, 82, 0, [7100]), (11, .if_icmp .ge 56, 67, 0, 0, []), (14, .aload_n 0, 0, 0, 0, []), (15, .getfield 55, 12, 24, 0, [7042]), (18, .aload_n 0, 0, 0, 0, []), (19, .getfield 194, 12, 83, 0, [7101]), (22, .iload 4, 0, 0, 0, []), (24, .iaload, 0, 0, 0, []), (25, .iaload, 0, 0, 0, []), (26, .iconst 1, 0, 0, 0, []), (27, .if_icmp .ne 34, 61, 0, 0, []), (30, .aload_n 0, 0, 0, 0, []), (31, .getfield 61, 12, 26, 0, [7044])],
  [(34, .aload_n 0, 0, 0, 0, []), (35, .getfield 194, 12, 83, 0, [7101]), (38, .iload 4, 0, 0, 0, []), (40, .iaload, 0, 0, 0, []), (41, .iaload, 0, 0, 0, []), (42, .iload_n 1, 0, 0, 0, []), (43, .if_icmp .ne 18, 61, 0, 0, []), (46, .iconst 4, 0, 0, 0, []), (47, .aload_n 0, 0, 0, 0, []), (48, .iload 4, 0, 0, 0, []), (50, .invokevirtual 452, 271, 1, 12, [9135, 9137, 179, 1015, 9138]), (53, .imul, 0, 0, 0, []), (54, .iload_n 2, 0, 0, 0, []), (55, .if_icmp .gt 6, 61, 0, 0, []), (58, .iload 4, 0, 0, 0, []), (60, .istore_n 3, 0, 0, 0, []), (61, .iinc 4 1, 0, 0, 0, [])],
  [(64, .goto (-59), 5, 0, 0, []), (67, .iload_n 3, 0, 0, 0, []), (68, .iconst (-1), 0, 0, 0, []), (69, .if_icmp .ne 6, 75, 0, 0, []), (72, .bipush 100, 0, 0, 0, []), (74, .ireturn, 0, 0, 0, []), (75, .aload_n 0, 0, 0, 0, []), (76, .getfield 76, 12, 31, 0, [7049]), (79, .bipush 6, 0, 0, 0, []), (81, .aload_n 0, 0, 0, 0, []), (82, .getfield 194, 12, 83, 0, [7101]), (85, .iload_n 3, 0, 0, 0, []), (86, .iaload, 0, 0, 0, []), (87, .imul, 0, 0, 0, []), (88, .iaload, 0, 0, 0, []), (89, .istore 4, 0, 0, 0, []), (91, .aload_n 0, 0, 0, 0, []), (92, .getfield 76, 12, 31, 0, [7049]), (95, .bipush 6, 0, 0, 0, [])],
  [(97, .aload_n 0, 0, 0, 0, []), (98, .getfield 194, 12, 83, 0, [7101]), (101, .iload_n 3, 0, 0, 0, []), (102, .iaload, 0, 0, 0, []), (103, .imul, 0, 0, 0, []), (104, .iconst 1, 0, 0, 0, []), (105, .iadd, 0, 0, 0, []), (106, .iaload, 0, 0, 0, []), (107, .istore 5, 0, 0, 0, []), (109, .iconst 4, 0, 0, 0, []), (110, .aload_n 0, 0, 0, 0, []), (111, .iload_n 3, 0, 0, 0, []), (112, .invokevirtual 452, 271, 1, 12, [9135, 9137, 179, 1015, 9138]), (115, .imul, 0, 0, 0, []), (116, .istore 6, 0, 0, 0, []), (118, .iconst 4, 0, 0, 0, []), (119, .aload_n 0, 0, 0, 0, []), (120, .iload_n 3, 0, 0, 0, []), (121, .invokevirtual 482, 272, 1, 12, [9143, 9145, 181, 1015, 9146]), (124, .imul, 0, 0, 0, []), (125, .istore 7, 0, 0, 0, []), (127, .iload_n 2, 0, 0, 0, [])],
  [(128, .iload 7, 0, 0, 0, []), (130, .if_icmp .ge 10, 140, 0, 0, []), (133, .iload 7, 0, 0, 0, []), (135, .iload 6, 0, 0, 0, []), (137, .if_icmp .gt 8, 145, 0, 0, []), (140, .iload 5, 0, 0, 0, []), (142, .goto 22, 164, 0, 0, []), (145, .iload 4, 0, 0, 0, []), (147, .iload 5, 0, 0, 0, []), (149, .iload 4, 0, 0, 0, []), (151, .isub, 0, 0, 0, []), (152, .iload_n 2, 0, 0, 0, []), (153, .iload 6, 0, 0, 0, []), (155, .isub, 0, 0, 0, []), (156, .imul, 0, 0, 0, []), (157, .iload 7, 0, 0, 0, []), (159, .iload 6, 0, 0, 0, [])],
  [(161, .isub, 0, 0, 0, []), (162, .idiv, 0, 0, 0, []), (163, .iadd, 0, 0, 0, []), (164, .ireturn, 0, 0, 0, [])]]
def gP276 : List (List gE) := [
  [(0, .aload_n 0, 0, 0, 0, []), (1, .getfield 61, 12, 26, 0, [7044]), (4, .iload_n 1, 0, 0, 0, []), (5, .iaload, 0, 0, 0, []), (6, .istore_n 2, 0, 0, 0, []), (7, .aload_n 0, 0, 0, 0, []), (8, .getfield 76, 12, 31, 0, [7049]), (11, .bipush 6, 0, 0, 0, []), (13, .iload_n 1, 0, 0, 0, []), (14, .imul, 0, 0, 0, []), (15, .iaload, 0, 0, 0, []), (16, .istore_n 3, 0, 0, 0, []), (17, .bipush 100, 0, 0, 0, []), (19, .aload_n 0, 0, 0, 0, []), (20, .getfield 76, 12, 31, 0, [7049]), (23, .bipush 6, 0, 0, 0, []), (25, .iload_n 1, 0, 0, 0, []), (26, .imul, 0, 0, 0, []), (27, .iconst 1, 0, 0, 0, []), (28, .iadd, 0, 0, 0, []), (29, .iaload, 0, 0, 0, []), (30, .isub, 0, 0, 0, []), (31, .istore 4, 0, 0, 0, [])],
  [(33, .iload 4, 0, 0, 0, []), (35, .ifCond .ge 6, 41, 0, 0, []), (38, .iconst 0, 0, 0, 0, []), (39, .istore 4, 0, 0, 0, []), (41, .iconst 4, 0, 0, 0, []), (42, .aload_n 0, 0, 0, 0, []), (43, .getfield 76, 12, 31, 0, [7049]), (46, .bipush 6, 0, 0, 0, []), (48, .iload_n 1, 0, 0, 0, []), (49, .imul, 0, 0, 0, []), (50, .iconst 2, 0, 0, 0, []), (51, .iadd, 0, 0, 0, []), (52, .iaload, 0, 0, 0, []), (53, .imul, 0, 0, 0, []), (54, .istore 5, 0, 0, 0, []), (56, .iconst (-1), 0, 0, 0, []), (57, .istore 6, 0, 0, 0, []), (59, .iconst 0, 0, 0, 0, []), (60, .istore 7, 0, 0, 0, []), (62, .iload 7, 0, 0, 0, [])],
  [(64, .aload_n 0, 0, 0, 0, []), (65, .getfield 461, 12, 93, 0, [7111]), (68, .if_icmp .ge 79, 147, 0, 0, []), (71, .aload_n 0, 0, 0, 0, []), (72, .getfield 212, 12, 90, 0, [7108]), (75, .sipush 240, 0, 0, 0, []), (78, .iload_n 3, 0, 0, 0, []), (79, .imul, 0, 0, 0, []), (80, .iload 7, 0, 0, 0, []), (82, .iadd, 0, 0, 0, []), (83, .baload, 0, 0, 0, []), (84, .ifCond .eq 7, 91, 0, 0, []), (87, .iload 7, 0, 0, 0, []), (89, .istore 6, 0, 0, 0, []), (91, .iload 6, 0, 0, 0, []), (93, .iconst (-1), 0, 0, 0, []), (94, .if_icmp .eq 47, 141, 0, 0, [])],
  [(97, .iload 7, 0, 0, 0, []), (99, .iload 6, 0, 0, 0, []), (101, .isub, 0, 0, 0, []), (102, .iload 5, 0, 0, 0, []), (104, .if_icmp .gt 37, 141, 0, 0, []), (107, .aload_n 0, 0, 0, 0, []), (108, .getfield 209, 12, 89, 0, [7107]), (111, .sipush 240, 0, 0, 0, []), (114, .iload_n 2, 0, 0, 0, []), (115, .imul, 0, 0, 0, []), (116, .iload 7, 0, 0, 0, []), (118, .iadd, 0, 0, 0, []), (119, .aload_n 0, 0, 0, 0, []), (120, .getfield 209, 12, 89, 0, [7107]), (123, .sipush 240, 0, 0, 0, []), (126, .iload_n 2, 0, 0, 0, []), (127, .imul, 0, 0, 0, [])],
  [(128, .iload 7, 0, 0, 0, []), (130, .iadd, 0, 0, 0, []), (131, .laload, 0, 0, 0, []), (132, .iload 4, 0, 0, 0, []), (134, .i2l, 0, 0, 0, []), (135, .lmul, 0, 0, 0, []), (136, .ldc2_w 474, 0, 0, 100, [9147]), (139, .ldiv, 0, 0, 0, []), (140, .lastore, 0, 0, 0, []), (141, .iinc 7 1, 0, 0, 0, []), (144, .goto (-82), 62, 0, 0, []), (147, .return_, 0, 0, 0, [])]]
def gP277 : List (List gE) := [
  [(0, .aload_n 0, 0, 0, 0, []), (1, .getfield 61, 12, 26, 0, [7044]), (4, .iload_n 1, 0, 0, 0, []), (5, .iaload, 0, 0, 0, []), (6, .istore_n 2, 0, 0, 0, []), (7, .iconst 0, 0, 0, 0, []), (8, .istore_n 3, 0, 0, 0, []), (9, .iload_n 3, 0, 0, 0, []), (10, .aload_n 0, 0, 0, 0, []), (11, .getfield 461, 12, 93, 0, [7111]), (14, .if_icmp .ge 27, 41, 0, 0, []), (17, .aload_n 0, 0, 0, 0, []), (18, .getfield 215, 12, 91, 0, [7109]), (21, .iload_n 3, 0, 0, 0, []), (22, .aload_n 0, 0, 0, 0, []), (23, .getfield 209, 12, 89, 0, [7107]), (26, .sipush 240, 0, 0, 0, []), (29, .iload_n 2, 0, 0, 0, []), (30, .imul, 0, 0, 0, []), (31, .iload_n 3, 0, 0, 0, [])],
  [(32, .iadd, 0, 0, 0, []), (33, .laload, 0, 0, 0, []), (34, .lastore, 0, 0, 0, []), (35, .iinc 3 1, 0, 0, 0, []), (38, .goto (-29), 9, 0, 0, []), (41, .iconst 0, 0, 0, 0, []), (42, .istore_n 3, 0, 0, 0, []), (43, .iload_n 3, 0, 0, 0, []), (44, .aload_n 0, 0, 0, 0, []), (45, .getfield 461, 12, 93, 0, [7111]), (48, .if_icmp .ge 89, 137, 0, 0, []), (51, .lconst 0, 0, 0, 0, []), (52, .lstore 4, 0, 0, 0, []), (54, .iconst 0, 0, 0, 0, []), (55, .istore 6, 0, 0, 0, []), (57, .iload 6, 0, 0, 0, []), (59, .aload_n 0, 0, 0, 0, []), (60, .getfield 76, 12, 31, 0, [7049]), (63, .bipush 6, 0, 0, 0, [])],
  [(65, .iload_n 1, 0, 0, 0, []), (66, .imul, 0, 0, 0, []), (67, .iaload, 0, 0, 0, []), (68, .if_icmp .ge 45, 113, 0, 0, []), (71, .iload 6, 0, 0, 0, []), (73, .iload_n 3, 0, 0, 0, []), (74, .if_icmp .gt 39, 113, 0, 0, []), (77, .lload 4, 0, 0, 0, []), (79, .aload_n 0, 0, 0, 0, []), (80, .getfield 215, 12, 91, 0, [7109]), (83, .iload_n 3, 0, 0, 0, []), (84, .iload 6, 0, 0, 0, []), (86, .isub, 0, 0, 0, []), (87, .laload, 0, 0, 0, []), (88, .aload_n 0, 0, 0, 0, []), (89, .getfield 76, 12, 31, 0, [7049]), (92, .bipush 6, 0, 0, 0, []), (94, .iload_n 1, 0, 0, 0, []), (95, .imul, 0, 0, 0, [])],
  [(96, .iconst 1, 0, 0, 0, []), (97, .iadd, 0, 0, 0, []), (98, .iload 6, 0, 0, 0, []), (100, .iadd, 0, 0, 0, []), (101, .iaload, 0, 0, 0, []), (102, .i2l, 0, 0, 0, []), (103, .lmul, 0, 0, 0, []), (104, .ladd, 0, 0, 0, []), (105, .lstore 4, 0, 0, 0, []), (107, .iinc 6 1, 0, 0, 0, []), (110, .goto (-53), 57, 0, 0, []), (113, .aload_n 0, 0, 0, 0, []), (114, .getfield 209, 12, 89, 0, [7107]), (117, .sipush 240, 0, 0, 0, []), (120, .iload_n 2, 0, 0, 0, []), (121, .imul, 0, 0, 0, []), (122, .iload_n 3, 0, 0, 0, []), (123, .iadd, 0, 0, 0, []), (124, .lload 4, 0, 0, 0, []), (126, .ldc2_w 474, 0, 0, 100, [9147])],
  [(129, .ldiv, 0, 0, 0, []), (130, .lastore, 0, 0, 0, []), (131, .iinc 3 1, 0, 0, 0, []), (134, .goto (-91), 43, 0, 0, []), (137, .return_, 0, 0, 0, [])]]
def gP278 : List (List gE) := [
  [(0, .aload_n 0, 0, 0, 0, []), (1, .iload_n 1, 0, 0, 0, []), (2, .invokevirtual 458, 270, 1, 12, [9103, 9105, 172, 1015, 9106]), (5, .iconst 0, 0, 0, 0, []), (6, .istore_n 2, 0, 0, 0, []), (7, .iconst 0, 0, 0, 0, []), (8, .istore_n 3, 0, 0, 0, []), (9, .iload_n 3, 0, 0, 0, []), (10, .aload_n 0, 0, 0, 0, []), (11, .getfield 446, 12, 82, 0, [7100]), (14, .if_icmp .ge 39, 53, 0, 0, []), (17, .aload_n 0, 0, 0, 0, []), (18, .getfield 55, 12, 24, 0, [7042]), (21, .aload_n 0, 0, 0, 0, []), (22, .getfield 194, 12, 83, 0, [7101]), (25, .iload_n 3, 0, 0, 0, []), (26, .iaload, 0, 0, 0, []), (27, .iaload, 0, 0, 0, []), (28, .ifCond .ne 19, 47, 0, 0, []), (31, .iload_n 2, 0, 0, 0, [])],
  [(32, .iconst 1, 0, 0, 0, []), (33, .aload_n 0, 0, 0, 0, []), (34, .getfield 61, 12, 26, 0, [7044]), (37, .aload_n 0, 0, 0, 0, []), (38, .getfield 194, 12, 83, 0, [7101]), (41, .iload_n 3, 0, 0, 0, []), (42, .iaload, 0, 0, 0, []), (43, .iaload, 0, 0, 0, []), (44, .ishl, 0, 0, 0, []), (45, .ior, 0, 0, 0, []), (46, .istore_n 2, 0, 0, 0, []), (47, .iinc 3 1, 0, 0, 0, []), (50, .goto (-41), 9, 0, 0, []), (53, .iload_n 2, 0, 0, 0, []), (54, .ireturn, 0, 0, 0, [])]]
def gP279 : List (List gE) := [
  [(0, .aload_n 0, 0, 0, 0, []), (1, .getfield 146, 12, 66, 0, [7084]), (4, .iload_n 1, 0, 0, 0, []), (5, .iaload, 0, 0, 0, []), (6, .iconst 4, 0, 0, 0, []), (7, .if_icmp .eq 13, 20, 0, 0, []), (10, .aload_n 0, 0, 0, 0, []), (11, .getfield 146, 12, 66, 0, [7084]), (14, .iload_n 1, 0, 0, 0, []), (15, .iaload, 0, 0, 0, []), (16, .iconst 5, 0, 0, 0, []), (17, .if_icmp .ne 12, 29, 0, 0, []), (20, .iconst 1, 0, 0, 0, []), (21, .aload_n 0, 0, 0, 0, []), (22, .getfield 158, 12, 70, 0, [7088]), (25, .iload_n 1, 0, 0, 0, []), (26, .iaload, 0, 0, 0, []), (27, .ishl, 0, 0, 0, []), (28, .ireturn, 0, 0, 0, []), (29, .aload_n 0, 0, 0, 0, []), (30, .getfield 146, 12, 66, 0, [7084])],
  [(33, .iload_n 1, 0, 0, 0, []), (34, .iaload, 0, 0, 0, []), (35, .bipush 6, 0, 0, 0, []), (37, .if_icmp .ne 26, 63, 0, 0, []), (40, .aload_n 0, 0, 0, 0, []), (41, .getfield 167, 12, 73, 0, [7091]), (44, .iload_n 1, 0, 0, 0, []), (45, .iaload, 0, 0, 0, []), (46, .iconst (-1), 0, 0, 0, []), (47, .if_icmp .eq 16, 63, 0, 0, []), (50, .aload_n 0, 0, 0, 0, []), (51, .aload_n 0, 0, 0, 0, []), (52, .getfield 167, 12, 73, 0, [7091]), (55, .iload_n 1, 0, 0, 0, []), (56, .iaload, 0, 0, 0, []), (57, .invokevirtual 485, 278, 1, 12, [9099, 9101, 171, 1015, 9102]), (60, .goto 4, 64, 0, 0, []), (63, .iconst 0, 0, 0, 0, [])],
  [(64, .ireturn, 0, 0, 0, [])]]
def gP280 : List (List gE) := [
  [(0, .iconst 0, 0, 0, 0, []), (1, .istore_n 2, 0, 0, 0, []), (2, .aload_n 0, 0, 0, 0, []), (3, .iload_n 1, 0, 0, 0, []), (4, .invokevirtual 488, 279, 1, 12, [9095, 9097, 170, 1015, 9098]), (7, .istore_n 3, 0, 0, 0, []), (8, .iload_n 3, 0, 0, 0, []), (9, .iload_n 2, 0, 0, 0, []), (10, .iconst (-1), 0, 0, 0, []), (11, .ixor, 0, 0, 0, []), (12, .iand, 0, 0, 0, []), (13, .ifCond .eq 49, 62, 0, 0, []), (16, .iload_n 2, 0, 0, 0, []), (17, .iload_n 3, 0, 0, 0, []), (18, .ior, 0, 0, 0, []), (19, .istore_n 2, 0, 0, 0, []), (20, .iload_n 2, 0, 0, 0, []), (21, .istore_n 3, 0, 0, 0, []), (22, .iconst 0, 0, 0, 0, []), (23, .istore 4, 0, 0, 0, []), (25, .iload 4, 0, 0, 0, []), (27, .aload_n 0, 0, 0, 0, []), (28, .getfield 413, 12, 64, 0, [7082]), (31, .if_icmp .ge 28, 59, 0, 0, [])],
  [(34, .iload_n 2, 0, 0, 0, []), (35, .iload 4, 0, 0, 0, []), (37, .ishr, 0, 0, 0, []), (38, .iconst 1, 0, 0, 0, []), (39, .iand, 0, 0, 0, []), (40, .iconst 1, 0, 0, 0, []), (41, .if_icmp .ne 12, 53, 0, 0, []), (44, .iload_n 3, 0, 0, 0, []), (45, .aload_n 0, 0, 0, 0, []), (46, .iload 4, 0, 0, 0, []), (48, .invokevirtual 488, 279, 1, 12, [9095, 9097, 170, 1015, 9098]), (51, .ior, 0, 0, 0, []), (52, .istore_n 3, 0, 0, 0, []), (53, .iinc 4 1, 0, 0, 0, []), (56, .goto (-31), 25, 0, 0, []), (59, .goto (-51), 8, 0, 0, []), (62, .iload_n 2, 0, 0, 0, []), (63, .ireturn, 0, 0, 0, [])]]
def gP281 : List (List gE) := [
  [(0, .aload_n 0, 0, 0, 0, []), (1, .iload_n 1, 0, 0, 0, []), (2, .invokevirtual 427, 250, 1, 12, [9029, 9031, 164, 1015, 9032]), (5, .ifCond .eq 11, 16, 0, 0, []), (8, .aload_n 0, 0, 0, 0, []), (9, .iload_n 1, 0, 0, 0, []), (10, .invokevirtual 491, 280, 1, 12, [9091, 9093, 169, 1015, 9094]), (13, .goto 4, 17, 0, 0, []), (16, .iconst (-1), 0, 0, 0, []), (17, .ireturn, 0, 0, 0, [])]]
def gP282 : List (List gE) := [
  [(0, .iload_n 1, 0, 0, 0, []), (1, .ifCond .lt 15, 16, 0, 0, []), (4, .iload_n 1, 0, 0, 0, []), (5, .aload_n 0, 0, 0, 0, []), (6, .getfield 305, 12, 18, 0, [7036]), (9, .if_icmp .ge 7, 16, 0, 0, []), (12, .iconst 1, 0, 0, 0, []), (13, .goto 4, 17, 0, 0, []), (16, .iconst 0, 0, 0, 0, []), (17, .ireturn, 0, 0, 0, [])]]
def gP283 : List (List gE) := [
  [(0, .aload_n 0, 0, 0, 0, []), (1, .iload_n 2, 0, 0, 0, []), (2, .invokevirtual 494, 274, 1, 12, [9127, 9129, 177, 1015, 9130]), (5, .iconst 0, 0, 0, 0, []), (6, .istore 4, 0, 0, 0, []), (8, .iconst 0, 0, 0, 0, []), (9, .istore 5, 0, 0, 0, []), (11, .iload 5, 0, 0, 0, []), (13, .aload_n 0, 0, 0, 0, []), (14, .getfield 446, 12, 82, 0, [7100]), (17, .if_icmp .ge 65, 82, 0, 0, []), (20, .aload_n 0, 0, 0, 0, []), (21, .getfield 55, 12, 24, 0, [7042]), (24, .aload_n 0, 0, 0, 0, []), (25, .getfield 194, 12, 83, 0, [7101]), (28, .iload 5, 0, 0, 0, []), (30, .iaload, 0, 0, 0, []), (31, .iaload, 0, 0, 0, [])],
  [(32, .ifCond .ne 44, 76, 0, 0, []), (35, .aload_n 0, 0, 0, 0, []), (36, .getfield 164, 12, 72, 0, [7090]), (39, .aload_n 0, 0, 0, 0, []), (40, .getfield 61, 12, 26, 0, [7044]), (43, .aload_n 0, 0, 0, 0, []), (44, .getfield 194, 12, 83, 0, [7101]), (47, .iload 5, 0, 0, 0, []), (49, .iaload, 0, 0, 0, []), (50, .iaload, 0, 0, 0, []), (51, .iaload, 0, 0, 0, []), (52, .iload 4, 0, 0, 0, []), (54, .if_icmp .le 22, 76, 0, 0, []), (57, .aload_n 0, 0, 0, 0, []), (58, .getfield 164, 12, 72, 0, [7090]), (61, .aload_n 0, 0, 0, 0, []), (62, .getfield 61, 12, 26, 0, [7044])],
  [(65, .aload_n 0, 0, 0, 0, []), (66, .getfield 194, 12, 83, 0, [7101]), (69, .iload 5, 0, 0, 0, []), (71, .iaload, 0, 0, 0, []), (72, .iaload, 0, 0, 0, []), (73, .iaload, 0, 0, 0, []), (74, .istore 4, 0, 0, 0, []), (76, .iinc 5 1, 0, 0, 0, []), (79, .goto (-68), 11, 0, 0, []), (82, .iconst 0, 0, 0, 0, []), (83, .istore 5, 0, 0, 0, []), (85, .iload 5, 0, 0, 0, []), (87, .aload_n 0, 0, 0, 0, []), (88, .getfield 137, 12, 61, 0, [7079]), (91, .iload_n 3, 0, 0, 0, []), (92, .iaload, 0, 0, 0, []), (93, .if_icmp .ge 79, 172, 0, 0, [])],
  [(96, .aload_n 0, 0, 0, 0, []), (97, .iload_n 3, 0, 0, 0, []), (98, .iload 5, 0, 0, 0, []), (100, .aload_n 0, 0, 0, 0, []), (101, .getfield 40, 12, 19, 0, [7037]), (104, .iload_n 2, 0, 0, 0, []), (105, .iaload, 0, 0, 0, []), (106, .invokevirtual 410, 248, 3, 12, [9010, 9012, 162, 1015, 9013]), (109, .istore 6, 0, 0, 0, []), (111, .iconst 0, 0, 0, 0, []), (112, .istore 7, 0, 0, 0, []), (114, .iload 7, 0, 0, 0, []), (116, .iconst 4, 0, 0, 0, []), (117, .if_icmp .ge 49, 166, 0, 0, []), (120, .aload_n 0, 0, 0, 0, []), (121, .getfield 173, 12, 75, 0, [7093]), (124, .sipush 240, 0, 0, 0, []), (127, .iload_n 1, 0, 0, 0, [])],
  [(128, .imul, 0, 0, 0, []), (129, .iconst 4, 0, 0, 0, []), (130, .iload 5, 0, 0, 0, []), (132, .imul, 0, 0, 0, []), (133, .iadd, 0, 0, 0, []), (134, .iload 7, 0, 0, 0, []), (136, .iadd, 0, 0, 0, []), (137, .iload 6, 0, 0, 0, []), (139, .iconst (-1), 0, 0, 0, []), (140, .if_icmp .ne 7, 147, 0, 0, []), (143, .iconst 0, 0, 0, 0, []), (144, .goto 15, 159, 0, 0, []), (147, .aload_n 0, 0, 0, 0, []), (148, .getfield 218, 12, 92, 0, [7110]), (151, .iconst 4, 0, 0, 0, []), (152, .iload 6, 0, 0, 0, []), (154, .imul, 0, 0, 0, []), (155, .iload 7, 0, 0, 0, []), (157, .iadd, 0, 0, 0, []), (158, .iaload, 0, 0, 0, []), (159, .iastore, 0, 0, 0, [])],
  [(160, .iinc 7 1, 0, 0, 0, []), (163, .goto (-49), 114, 0, 0, []), (166, .iinc 5 1, 0, 0, 0, []), (169, .goto (-84), 85, 0, 0, []), (172, .aload_n 0, 0, 0, 0, []), (173, .getfield 149, 12, 67, 0, [7085]), (176, .iload_n 1, 0, 0, 0, []), (177, .iconst 4, 0, 0, 0, []), (178, .aload_n 0, 0, 0, 0, []), (179, .getfield 137, 12, 61, 0, [7079]), (182, .iload_n 3, 0, 0, 0, []), (183, .iaload, 0, 0, 0, []), (184, .imul, 0, 0, 0, []), (185, .iastore, 0, 0, 0, []), (186, .aload_n 0, 0, 0, 0, []), (187, .getfield 164, 12, 72, 0, [7090]), (190, .iload_n 1, 0, 0, 0, []), (191, .iload 4, 0, 0, 0, [])],
  [(193, .iconst 1, 0, 0, 0, []), (194, .iadd, 0, 0, 0, []), (195, .iastore, 0, 0, 0, []), (196, .aload_n 0, 0, 0, 0, []), (197, .getfield 167, 12, 73, 0, [7091]), (200, .iload_n 1, 0, 0, 0, []), (201, .iload_n 2, 0, 0, 0, []), (202, .iastore, 0, 0, 0, []), (203, .aload_n 0, 0, 0, 0, []), (204, .getfield 170, 12, 74, 0, [7092]), (207, .iload_n 1, 0, 0, 0, []), (208, .iload_n 3, 0, 0, 0, []), (209, .iastore, 0, 0, 0, []), (210, .aload_n 0, 0, 0, 0, []), (211, .iload_n 1, 0, 0, 0, []), (212, .invokevirtual 437, 258, 1, 12, [9051, 9053, 166, 1015, 9054]), (215, .aload_n 0, 0, 0, 0, []), (216, .getfield 161, 12, 71, 0, [7089]), (219, .iload_n 1, 0, 0, 0, []), (220, .iaload, 0, 0, 0, []), (221, .ireturn, 0, 0, 0, [])]]
def gP284 : List (List gE) := [
  [(0, .aload_n 0, 0, 0, 0, []), (1, .iload_n 1, 0, 0, 0, []), (2, .invokevirtual 497, 282, 1, 12, [9119, 9121, 175, 1015, 9122]), (5, .ifCond .eq 25, 30, 0, 0, []), (8, .aload_n 0, 0, 0, 0, []), (9, .iload_n 2, 0, 0, 0, []), (10, .invokevirtual 407, 246, 1, 12, [9002, 9004, 161, 1015, 9005]), (13, .ifCond .eq 17, 30, 0, 0, []), (16, .iload_n 2, 0, 0, 0, []), (17, .aload_n 0, 0, 0, 0, []), (18, .getfield 40, 12, 19, 0, [7037]), (21, .iload_n 1, 0, 0, 0, []), (22, .iaload, 0, 0, 0, []), (23, .if_icmp .lt 7, 30, 0, 0, []), (26, .iconst 1, 0, 0, 0, []), (27, .goto 4, 31, 0, 0, []), (30, .iconst 0, 0, 0, 0, []), (31, .ireturn, 0, 0, 0, [])]]
def gP285 : List (List gE) := [
  [(0, .aload_n 0, 0, 0, 0, []), (1, .iload_n 1, 0, 0, 0, []), (2, .invokevirtual 427, 250, 1, 12, [9029, 9031, 164, 1015, 9032]), (5, .ifCond .eq 23, 28, 0, 0, []), (8, .aload_n 0, 0, 0, 0, []), (9, .getfield 146, 12, 66, 0, [7084]), (12, .iload_n 1, 0, 0, 0, []), (13, .iaload, 0, 0, 0, []), (14, .bipush 6, 0, 0, 0, []), (16, .if_icmp .ne 12, 28, 0, 0, []), (19, .aload_n 0, 0, 0, 0, []), (20, .iload_n 2, 0, 0, 0, []), (21, .iload_n 3, 0, 0, 0, []), (22, .invokevirtual 500, 284, 2, 12, [9115, 9117, 174, 1015, 9118]), (25, .ifCond .ne 5, 30, 0, 0, []), (28, .iconst (-1), 0, 0, 0, []), (29, .ireturn, 0, 0, 0, []), (30, .aload_n 0, 0, 0, 0, []), (31, .iload_n 2, 0, 0, 0, [])],
  [(32, .invokevirtual 485, 278, 1, 12, [9099, 9101, 171, 1015, 9102]), (35, .istore 4, 0, 0, 0, []), (37, .iload 4, 0, 0, 0, []), (39, .iconst 1, 0, 0, 0, []), (40, .aload_n 0, 0, 0, 0, []), (41, .getfield 413, 12, 64, 0, [7082]), (44, .ishl, 0, 0, 0, []), (45, .if_icmp .ge 13, 58, 0, 0, []), (48, .iload 4, 0, 0, 0, []), (50, .iload_n 1, 0, 0, 0, []), (51, .ishr, 0, 0, 0, []), (52, .iconst 1, 0, 0, 0, []), (53, .iand, 0, 0, 0, []), (54, .iconst 1, 0, 0, 0, []), (55, .if_icmp .ne 6, 61, 0, 0, []), (58, .bipush (-2), 0, 0, 0, []), (60, .ireturn, 0, 0, 0, []), (61, .iconst 0, 0, 0, 0, []), (62, .istore 5, 0, 0, 0, [])],
  [(64, .iload 5, 0, 0, 0, []), (66, .aload_n 0, 0, 0, 0, []), (67, .getfield 413, 12, 64, 0, [7082]), (70, .if_icmp .ge 37, 107, 0, 0, []), (73, .iload 4, 0, 0, 0, []), (75, .iload 5, 0, 0, 0, []), (77, .ishr, 0, 0, 0, []), (78, .iconst 1, 0, 0, 0, []), (79, .iand, 0, 0, 0, []), (80, .iconst 1, 0, 0, 0, []), (81, .if_icmp .ne 20, 101, 0, 0, []), (84, .aload_n 0, 0, 0, 0, []), (85, .iload 5, 0, 0, 0, []), (87, .invokevirtual 491, 280, 1, 12, [9091, 9093, 169, 1015, 9094]), (90, .iload_n 1, 0, 0, 0, []), (91, .ishr, 0, 0, 0, []), (92, .iconst 1, 0, 0, 0, []), (93, .iand, 0, 0, 0, []), (94, .iconst 1, 0, 0, 0, []), (95, .if_icmp .ne 6, 101, 0, 0, [])],
  [(98, .bipush (-2), 0, 0, 0, []), (100, .ireturn, 0, 0, 0, []), (101, .iinc 5 1, 0, 0, 0, []), (104, .goto (-40), 64, 0, 0, []), (107, .aload_n 0, 0, 0, 0, []), (108, .iload_n 1, 0, 0, 0, []), (109, .iload_n 2, 0, 0, 0, []), (110, .iload_n 3, 0, 0, 0, []), (111, .invokevirtual 503, 283, 3, 12, [9123, 9125, 176, 1015, 9126]), (114, .ireturn, 0, 0, 0, [])]]
def gP286 : List (List gE) := [
  [(0, .aload_n 0, 0, 0, 0, []), (1, .getfield 161, 12, 71, 0, [7089]), (4, .iload_n 1, 0, 0, 0, []), (5, .iaload, 0, 0, 0, []), (6, .istore_n 2, 0, 0, 0, []), (7, .iload_n 1, 0, 0, 0, []), (8, .istore_n 3, 0, 0, 0, []), (9, .aload_n 0, 0, 0, 0, []), (10, .getfield 146, 12, 66, 0, [7084]), (13, .iload_n 3, 0, 0, 0, []), (14, .iaload, 0, 0, 0, []), (15, .iconst 4, 0, 0, 0, []), (16, .if_icmp .eq 13, 29, 0, 0, []), (19, .aload_n 0, 0, 0, 0, []), (20, .getfield 146, 12, 66, 0, [7084]), (23, .iload_n 3, 0, 0, 0, []), (24, .iaload, 0, 0, 0, []), (25, .iconst 5, 0, 0, 0, []), (26, .if_icmp .ne 30, 56, 0, 0, []), (29, .aload_n 0, 0, 0, 0, []), (30, .getfield 158, 12, 70, 0, [7088])],
  [(33, .iload_n 3, 0, 0, 0, []), (34, .iaload, 0, 0, 0, []), (35, .istore_n 3, 0, 0, 0, []), (36, .aload_n 0, 0, 0, 0, []), (37, .getfield 161, 12, 71, 0, [7089]), (40, .iload_n 3, 0, 0, 0, []), (41, .iaload, 0, 0, 0, []), (42, .iload_n 2, 0, 0, 0, []), (43, .if_icmp .le (-34), 9, 0, 0, []), (46, .aload_n 0, 0, 0, 0, []), (47, .getfield 161, 12, 71, 0, [7089]), (50, .iload_n 3, 0, 0, 0, []), (51, .iaload, 0, 0, 0, []), (52, .istore_n 2, 0, 0, 0, []), (53, .goto (-44), 9, 0, 0, []), (56, .iload_n 2, 0, 0, 0, []), (57, .ireturn, 0, 0, 0, [])]]
def gP287 : List (List gE) := [
  [(0, .iconst 0, 0, 0, 0, []), (1, .istore_n 2, 0, 0, 0, []), (2, .iconst 0, 0, 0, 0, []), (3, .istore_n 3, 0, 0, 0, []), (4, .aload_n 0, 0, 0, 0, []), (5, .getfield 200, 12, 85, 0, [7103]), (8, .iconst 0, 0, 0, 0, []), (9, .bipush 7, 0, 0, 0, []), (11, .iload_n 1, 0, 0, 0, []), (12, .imul, 0, 0, 0, []), (13, .bipush 6, 0, 0, 0, []), (15, .iadd, 0, 0, 0, []), (16, .iastore, 0, 0, 0, []), (17, .aload_n 0, 0, 0, 0, []), (18, .getfield 203, 12, 86, 0, [7104]), (21, .iconst 0, 0, 0, 0, []), (22, .iconst 0, 0, 0, 0, []), (23, .iastore, 0, 0, 0, []), (24, .aload_n 0, 0, 0, 0, []), (25, .getfield 221, 12, 95, 0, [7113]), (28, .iconst 0, 0, 0, 0, []), (29, .iconst (-1), 0, 0, 0, []), (30, .iastore, 0, 0, 0, []), (31, .iload_n 3, 0, 0, 0, [])],
  [(32, .ifCond .lt 246, 278, 0, 0, []), (35, .aload_n 0, 0, 0, 0, []), (36, .getfield 203, 12, 86, 0, [7104]), (39, .iload_n 3, 0, 0, 0, []), (40, .iaload, 0, 0, 0, []), (41, .aload_n 0, 0, 0, 0, []), (42, .getfield 49, 12, 22, 0, [7040]), (45, .aload_n 0, 0, 0, 0, []), (46, .getfield 200, 12, 85, 0, [7103]), (49, .iload_n 3, 0, 0, 0, []), (50, .iaload, 0, 0, 0, []), (51, .iaload, 0, 0, 0, []), (52, .if_icmp .ne 9, 61, 0, 0, []), (55, .iinc 3 (-1), 0, 0, 0, []), (58, .goto (-27), 31, 0, 0, []), (61, .bipush 16, 0, 0, 0, []), (63, .aload_n 0, 0, 0, 0, [])],
  [(64, .getfield 200, 12, 85, 0, [7103]), (67, .iload_n 3, 0, 0, 0, []), (68, .iaload, 0, 0, 0, []), (69, .imul, 0, 0, 0, []), (70, .aload_n 0, 0, 0, 0, []), (71, .getfield 203, 12, 86, 0, [7104]), (74, .iload_n 3, 0, 0, 0, []), (75, .iaload, 0, 0, 0, []), (76, .iadd, 0, 0, 0, []), (77, .istore 4, 0, 0, 0, []), (79, .aload_n 0, 0, 0, 0, []), (80, .getfield 203, 12, 86, 0, [7104]), (83, .iload_n 3, 0, 0, 0, []), (84, .dup2, 0, 0, 0, []), (85, .iaload, 0, 0, 0, []), (86, .iconst 1, 0, 0, 0, []), (87, .iadd, 0, 0, 0, []), (88, .iastore, 0, 0, 0, []), (89, .aload_n 0, 0, 0, 0, []), (90, .getfield 64, 12, 27, 0, [7045]), (93, .iload 4, 0, 0, 0, []), (95, .iaload, 0, 0, 0, [])],
  [(96, .iconst (-1), 0, 0, 0, []), (97, .if_icmp .eq 13, 110, 0, 0, []), (100, .aload_n 0, 0, 0, 0, []), (101, .getfield 64, 12, 27, 0, [7045]), (104, .iload 4, 0, 0, 0, []), (106, .iaload, 0, 0, 0, []), (107, .goto 9, 116, 0, 0, []), (110, .aload_n 0, 0, 0, 0, []), (111, .getfield 221, 12, 95, 0, [7113]), (114, .iload_n 3, 0, 0, 0, []), (115, .iaload, 0, 0, 0, []), (116, .istore 5, 0, 0, 0, []), (118, .aload_n 0, 0, 0, 0, []), (119, .getfield 70, 12, 29, 0, [7047]), (122, .iload 4, 0, 0, 0, []), (124, .iaload, 0, 0, 0, []), (125, .iconst (-1), 0, 0, 0, []), (126, .if_icmp .eq 13, 139, 0, 0, [])],
  [(129, .aload_n 0, 0, 0, 0, []), (130, .getfield 70, 12, 29, 0, [7047]), (133, .iload 4, 0, 0, 0, []), (135, .iaload, 0, 0, 0, []), (136, .goto 9, 145, 0, 0, []), (139, .aload_n 0, 0, 0, 0, []), (140, .getfield 221, 12, 95, 0, [7113]), (143, .iload_n 3, 0, 0, 0, []), (144, .iaload, 0, 0, 0, []), (145, .istore 6, 0, 0, 0, []), (147, .aload_n 0, 0, 0, 0, []), (148, .getfield 55, 12, 24, 0, [7042]), (151, .iload 4, 0, 0, 0, []), (153, .iaload, 0, 0, 0, []), (154, .iconst 2, 0, 0, 0, []), (155, .if_icmp .ge 28, 183, 0, 0, []), (158, .iload 5, 0, 0, 0, [])],
  [(160, .iconst (-1), 0, 0, 0, []), (161, .if_icmp .eq 22, 183, 0, 0, []), (164, .aload_n 0, 0, 0, 0, []), (165, .getfield 185, 12, 79, 0, [7097]), (168, .iload 5, 0, 0, 0, []), (170, .iaload, 0, 0, 0, []), (171, .iload_n 2, 0, 0, 0, []), (172, .if_icmp .le 11, 183, 0, 0, []), (175, .aload_n 0, 0, 0, 0, []), (176, .getfield 185, 12, 79, 0, [7097]), (179, .iload 5, 0, 0, 0, []), (181, .iaload, 0, 0, 0, []), (182, .istore_n 2, 0, 0, 0, []), (183, .aload_n 0, 0, 0, 0, []), (184, .getfield 55, 12, 24, 0, [7042]), (187, .iload 4, 0, 0, 0, []), (189, .iaload, 0, 0, 0, []), (190, .iconst 1, 0, 0, 0, []), (191, .if_icmp .ne 28, 219, 0, 0, [])],
  [(194, .iload 6, 0, 0, 0, []), (196, .iconst (-1), 0, 0, 0, []), (197, .if_icmp .eq 22, 219, 0, 0, []), (200, .aload_n 0, 0, 0, 0, []), (201, .getfield 185, 12, 79, 0, [7097]), (204, .iload 6, 0, 0, 0, []), (206, .iaload, 0, 0, 0, []), (207, .iload_n 2, 0, 0, 0, []), (208, .if_icmp .le 11, 219, 0, 0, []), (211, .aload_n 0, 0, 0, 0, []), (212, .getfield 185, 12, 79, 0, [7097]), (215, .iload 6, 0, 0, 0, []), (217, .iaload, 0, 0, 0, []), (218, .istore_n 2, 0, 0, 0, []), (219, .aload_n 0, 0, 0, 0, []), (220, .getfield 55, 12, 24, 0, [7042]), (223, .iload 4, 0, 0, 0, [])],
  [(225, .iaload, 0, 0, 0, []), (226, .iconst 5, 0, 0, 0, []), (227, .if_icmp .eq 6, 233, 0, 0, []), (230, .goto (-199), 31, 0, 0, []), (233, .aload_n 0, 0, 0, 0, []), (234, .getfield 221, 12, 95, 0, [7113]), (237, .iload_n 3, 0, 0, 0, []), (238, .iconst 1, 0, 0, 0, []), (239, .iadd, 0, 0, 0, []), (240, .iload 5, 0, 0, 0, []), (242, .iastore, 0, 0, 0, []), (243, .aload_n 0, 0, 0, 0, []), (244, .getfield 200, 12, 85, 0, [7103]), (247, .iload_n 3, 0, 0, 0, []), (248, .iconst 1, 0, 0, 0, []), (249, .iadd, 0, 0, 0, []), (250, .bipush 7, 0, 0, 0, []), (252, .iload_n 1, 0, 0, 0, []), (253, .imul, 0, 0, 0, []), (254, .aload_n 0, 0, 0, 0, []), (255, .getfield 61, 12, 26, 0, [7044])],
  [(258, .iload 4, 0, 0, 0, []), (260, .iaload, 0, 0, 0, []), (261, .iadd, 0, 0, 0, []), (262, .iastore, 0, 0, 0, []), (263, .aload_n 0, 0, 0, 0, []), (264, .getfield 203, 12, 86, 0, [7104]), (267, .iload_n 3, 0, 0, 0, []), (268, .iconst 1, 0, 0, 0, []), (269, .iadd, 0, 0, 0, []), (270, .iconst 0, 0, 0, 0, []), (271, .iastore, 0, 0, 0, []), (272, .iinc 3 1, 0, 0, 0, []), (275, .goto (-244), 31, 0, 0, []), (278, .iload_n 2, 0, 0, 0, []), (279, .ireturn, 0, 0, 0, [])]]
def gP288 : List (List gE) := [
  [(0, .iconst 0, 0, 0, 0, []), (1, .istore_n 1, 0, 0, 0, []), (2, .iload_n 1, 0, 0, 0, []), (3, .aload_n 0, 0, 0, 0, []), (4, .getfield 413, 12, 64, 0, [7082]), (7, .if_icmp .ge 122, 129, 0, 0, []), (10, .aload_n 0, 0, 0, 0, []), (11, .getfield 224, 12, 96, 0, [7114]), (14, .iload_n 1, 0, 0, 0, []), (15, .iconst 0, 0, 0, 0, []), (16, .bastore, 0, 0, 0, []), (17, .aload_n 0, 0, 0, 0, []), (18, .getfield 146, 12, 66, 0, [7084]), (21, .iload_n 1, 0, 0, 0, []), (22, .iaload, 0, 0, 0, []), (23, .bipush 6, 0, 0, 0, []), (25, .if_icmp .ne 98, 123, 0, 0, []), (28, .aload_n 0, 0, 0, 0, []), (29, .getfield 167, 12, 73, 0, [7091])],
  [(32, .iload_n 1, 0, 0, 0, []), (33, .iaload, 0, 0, 0, []), (34, .iconst (-1), 0, 0, 0, []), (35, .if_icmp .ne 6, 41, 0, 0, []), (38, .goto 85, 123, 0, 0, []), (41, .aload_n 0, 0, 0, 0, []), (42, .getfield 224, 12, 96, 0, [7114]), (45, .iload_n 1, 0, 0, 0, []), (46, .aload_n 0, 0, 0, 0, []), (47, .aload_n 0, 0, 0, 0, []), (48, .getfield 167, 12, 73, 0, [7091]), (51, .iload_n 1, 0, 0, 0, []), (52, .iaload, 0, 0, 0, []), (53, .invokevirtual 506, 287, 1, 12, [9164, 9166, 185, 1015, 9167]), (56, .aload_n 0, 0, 0, 0, []), (57, .getfield 161, 12, 71, 0, [7089]), (60, .iload_n 1, 0, 0, 0, []), (61, .iaload, 0, 0, 0, []), (62, .if_icmp .le 7, 69, 0, 0, [])],
  [(65, .iconst 1, 0, 0, 0, []), (66, .goto 4, 70, 0, 0, []), (69, .iconst 0, 0, 0, 0, []), (70, .bastore, 0, 0, 0, []), (71, .aload_n 0, 0, 0, 0, []), (72, .iload_n 1, 0, 0, 0, []), (73, .invokevirtual 491, 280, 1, 12, [9091, 9093, 169, 1015, 9094]), (76, .istore_n 2, 0, 0, 0, []), (77, .iconst 0, 0, 0, 0, []), (78, .istore_n 3, 0, 0, 0, []), (79, .iload_n 3, 0, 0, 0, []), (80, .aload_n 0, 0, 0, 0, []), (81, .getfield 413, 12, 64, 0, [7082]), (84, .if_icmp .ge 39, 123, 0, 0, []), (87, .iload_n 2, 0, 0, 0, []), (88, .iload_n 3, 0, 0, 0, []), (89, .ishr, 0, 0, 0, []), (90, .iconst 1, 0, 0, 0, []), (91, .iand, 0, 0, 0, []), (92, .iconst 1, 0, 0, 0, []), (93, .if_icmp .ne 24, 117, 0, 0, [])],
  [(96, .aload_n 0, 0, 0, 0, []), (97, .iload_n 3, 0, 0, 0, []), (98, .invokevirtual 509, 286, 1, 12, [9168, 9170, 186, 1015, 9171]), (101, .aload_n 0, 0, 0, 0, []), (102, .getfield 161, 12, 71, 0, [7089]), (105, .iload_n 1, 0, 0, 0, []), (106, .iaload, 0, 0, 0, []), (107, .if_icmp .le 10, 117, 0, 0, []), (110, .aload_n 0, 0, 0, 0, []), (111, .getfield 224, 12, 96, 0, [7114]), (114, .iload_n 1, 0, 0, 0, []), (115, .iconst 1, 0, 0, 0, []), (116, .bastore, 0, 0, 0, []), (117, .iinc 3 1, 0, 0, 0, []), (120, .goto (-41), 79, 0, 0, []), (123, .iinc 1 1, 0, 0, 0, []), (126, .goto (-124), 2, 0, 0, [])],
  [(129, .iconst 1, 0, 0, 0, []), (130, .istore_n 1, 0, 0, 0, []), (131, .iload_n 1, 0, 0, 0, []), (132, .ifCond .eq 64, 196, 0, 0, []), (135, .iconst 0, 0, 0, 0, []), (136, .istore_n 1, 0, 0, 0, []), (137, .iconst 0, 0, 0, 0, []), (138, .istore_n 2, 0, 0, 0, []), (139, .iload_n 2, 0, 0, 0, []), (140, .aload_n 0, 0, 0, 0, []), (141, .getfield 413, 12, 64, 0, [7082]), (144, .if_icmp .ge 49, 193, 0, 0, []), (147, .aload_n 0, 0, 0, 0, []), (148, .getfield 146, 12, 66, 0, [7084]), (151, .iload_n 2, 0, 0, 0, []), (152, .iaload, 0, 0, 0, []), (153, .bipush 6, 0, 0, 0, []), (155, .if_icmp .ne 32, 187, 0, 0, []), (158, .aload_n 0, 0, 0, 0, []), (159, .getfield 224, 12, 96, 0, [7114])],
  [(162, .iload_n 2, 0, 0, 0, []), (163, .baload, 0, 0, 0, []), (164, .ifCond .ne 23, 187, 0, 0, []), (167, .aload_n 0, 0, 0, 0, []), (168, .iload_n 2, 0, 0, 0, []), (169, .invokevirtual 512, 289, 1, 12, [9172, 9174, 187, 1015, 9175]), (172, .ifCond .ne 6, 178, 0, 0, []), (175, .goto 12, 187, 0, 0, []), (178, .aload_n 0, 0, 0, 0, []), (179, .getfield 224, 12, 96, 0, [7114]), (182, .iload_n 2, 0, 0, 0, []), (183, .iconst 1, 0, 0, 0, []), (184, .bastore, 0, 0, 0, []), (185, .iconst 1, 0, 0, 0, []), (186, .istore_n 1, 0, 0, 0, []), (187, .iinc 2 1, 0, 0, 0, []), (190, .goto (-51), 139, 0, 0, [])],
  [(193, .goto (-62), 131, 0, 0, []), (196, .return_, 0, 0, 0, [])]]
def gP289 : List (List gE) := [
  [(0, .aload_n 0, 0, 0, 0, []), (1, .iload_n 1, 0, 0, 0, []), (2, .invokevirtual 491, 280, 1, 12, [9091, 9093, 169, 1015, 9094]), (5, .istore_n 2, 0, 0, 0, []), (6, .iconst 0, 0, 0, 0, []), (7, .istore_n 3, 0, 0, 0, []), (8, .iload_n 3, 0, 0, 0, []), (9, .aload_n 0, 0, 0, 0, []), (10, .getfield 413, 12, 64, 0, [7082]), (13, .if_icmp .ge 29, 42, 0, 0, []), (16, .iload_n 2, 0, 0, 0, []), (17, .iload_n 3, 0, 0, 0, []), (18, .ishr, 0, 0, 0, []), (19, .iconst 1, 0, 0, 0, []), (20, .iand, 0, 0, 0, []), (21, .iconst 1, 0, 0, 0, []), (22, .if_icmp .ne 14, 36, 0, 0, []), (25, .aload_n 0, 0, 0, 0, []), (26, .getfield 224, 12, 96, 0, [7114]), (29, .iload_n 3, 0, 0, 0, []), (30, .baload, 0, 0, 0, []), (31, .ifCond .eq 5, 36, 0, 0, [])],
  [(34, .iconst 1, 0, 0, 0, []), (35, .ireturn, 0, 0, 0, []), (36, .iinc 3 1, 0, 0, 0, []), (39, .goto (-31), 8, 0, 0, []), (42, .iconst 0, 0, 0, 0, []), (43, .ireturn, 0, 0, 0, [])]]
def gP290 : List (List gE) := [
  [(0, .iconst 0, 0, 0, 0, []), (1, .istore_n 1, 0, 0, 0, []), (2, .iconst 1, 0, 0, 0, []), (3, .istore_n 2, 0, 0, 0, []), (4, .iload_n 2, 0, 0, 0, []), (5, .ifCond .eq 86, 91, 0, 0, []), (8, .aload_n 0, 0, 0, 0, []), (9, .invokevirtual 515, 288, 0, 12, [9160, 9162, 184, 1015, 9163]), (12, .iconst 0, 0, 0, 0, []), (13, .istore_n 2, 0, 0, 0, []), (14, .iconst 0, 0, 0, 0, []), (15, .istore_n 3, 0, 0, 0, []), (16, .iload_n 3, 0, 0, 0, []), (17, .aload_n 0, 0, 0, 0, []), (18, .getfield 413, 12, 64, 0, [7082]), (21, .if_icmp .ge 67, 88, 0, 0, []), (24, .iload_n 2, 0, 0, 0, []), (25, .ifCond .ne 63, 88, 0, 0, []), (28, .aload_n 0, 0, 0, 0, []), (29, .getfield 224, 12, 96, 0, [7114])],
  [(32, .iload_n 3, 0, 0, 0, []), (33, .baload, 0, 0, 0, []), (34, .ifCond .eq 48, 82, 0, 0, []), (37, .aload_n 0, 0, 0, 0, []), (38, .iload_n 3, 0, 0, 0, []), (39, .invokevirtual 512, 289, 1, 12, [9172, 9174, 187, 1015, 9175]), (42, .ifCond .eq 6, 48, 0, 0, []), (45, .goto 37, 82, 0, 0, []), (48, .aload_n 0, 0, 0, 0, []), (49, .iload_n 3, 0, 0, 0, []), (50, .aload_n 0, 0, 0, 0, []), (51, .getfield 167, 12, 73, 0, [7091]), (54, .iload_n 3, 0, 0, 0, []), (55, .iaload, 0, 0, 0, []), (56, .aload_n 0, 0, 0, 0, []), (57, .getfield 170, 12, 74, 0, [7092]), (60, .iload_n 3, 0, 0, 0, []), (61, .iaload, 0, 0, 0, []), (62, .invokevirtual 503, 283, 3, 12, [9123, 9125, 176, 1015, 9126])],
  [(65, .istore 4, 0, 0, 0, []), (67, .iload_n 1, 0, 0, 0, []), (68, .iload 4, 0, 0, 0, []), (70, .ifCond .le 7, 77, 0, 0, []), (73, .iconst 1, 0, 0, 0, []), (74, .goto 4, 78, 0, 0, []), (77, .iconst 0, 0, 0, 0, []), (78, .iadd, 0, 0, 0, []), (79, .istore_n 1, 0, 0, 0, []), (80, .iconst 1, 0, 0, 0, []), (81, .istore_n 2, 0, 0, 0, []), (82, .iinc 3 1, 0, 0, 0, []), (85, .goto (-69), 16, 0, 0, []), (88, .goto (-84), 4, 0, 0, []), (91, .iload_n 1, 0, 0, 0, []), (92, .ireturn, 0, 0, 0, [])]]
def gP291 : List (List gE) := [
  [(0, .iconst 0, 0, 0, 0, []), (1, .istore_n 2, 0, 0, 0, []), (2, .iload_n 2, 0, 0, 0, []), (3, .aload_n 0, 0, 0, 0, []), (4, .getfield 413, 12, 64, 0, [7082]), (7, .if_icmp .ge 42, 49, 0, 0, []), (10, .aload_n 0, 0, 0, 0, []), (11, .getfield 227, 12, 97, 0, [7115]), (14, .iload_n 2, 0, 0, 0, []), (15, .aload_n 0, 0, 0, 0, []), (16, .getfield 188, 12, 80, 0, [7098]), (19, .aload_n 0, 0, 0, 0, []), (20, .getfield 164, 12, 72, 0, [7090]), (23, .iload_n 2, 0, 0, 0, []), (24, .iaload, 0, 0, 0, []), (25, .bipush 7, 0, 0, 0, []), (27, .if_icmp .le 8, 35, 0, 0, []), (30, .bipush 7, 0, 0, 0, [])],
  [(32, .goto 9, 41, 0, 0, []), (35, .aload_n 0, 0, 0, 0, []), (36, .getfield 164, 12, 72, 0, [7090]), (39, .iload_n 2, 0, 0, 0, []), (40, .iaload, 0, 0, 0, []), (41, .iaload, 0, 0, 0, []), (42, .iastore, 0, 0, 0, []), (43, .iinc 2 1, 0, 0, 0, []), (46, .goto (-44), 2, 0, 0, []), (49, .iconst 0, 0, 0, 0, []), (50, .istore_n 2, 0, 0, 0, []), (51, .iload_n 2, 0, 0, 0, []), (52, .bipush 20, 0, 0, 0, []), (54, .if_icmp .ge 150, 204, 0, 0, []), (57, .iconst 0, 0, 0, 0, []), (58, .istore_n 3, 0, 0, 0, []), (59, .iload_n 3, 0, 0, 0, []), (60, .aload_n 0, 0, 0, 0, []), (61, .getfield 413, 12, 64, 0, [7082])],
  [(64, .if_icmp .ge 134, 198, 0, 0, []), (67, .aload_n 0, 0, 0, 0, []), (68, .getfield 146, 12, 66, 0, [7084]), (71, .iload_n 3, 0, 0, 0, []), (72, .iaload, 0, 0, 0, []), (73, .bipush 6, 0, 0, 0, []), (75, .if_icmp .ne 117, 192, 0, 0, []), (78, .aload_n 0, 0, 0, 0, []), (79, .getfield 167, 12, 73, 0, [7091]), (82, .iload_n 3, 0, 0, 0, []), (83, .iaload, 0, 0, 0, []), (84, .iconst (-1), 0, 0, 0, []), (85, .if_icmp .ne 6, 91, 0, 0, []), (88, .goto 104, 192, 0, 0, []), (91, .aload_n 0, 0, 0, 0, []), (92, .aload_n 0, 0, 0, 0, []), (93, .getfield 167, 12, 73, 0, [7091])],
  [(96, .iload_n 3, 0, 0, 0, []), (97, .iaload, 0, 0, 0, []), (98, .invokevirtual 485, 278, 1, 12, [9099, 9101, 171, 1015, 9102]), (101, .istore 4, 0, 0, 0, []), (103, .iconst 0, 0, 0, 0, []), (104, .istore 5, 0, 0, 0, []), (106, .iconst 0, 0, 0, 0, []), (107, .istore 6, 0, 0, 0, []), (109, .iload 6, 0, 0, 0, []), (111, .aload_n 0, 0, 0, 0, []), (112, .getfield 413, 12, 64, 0, [7082]), (115, .if_icmp .ge 41, 156, 0, 0, []), (118, .iload 4, 0, 0, 0, []), (120, .iload 6, 0, 0, 0, []), (122, .ishr, 0, 0, 0, []), (123, .iconst 1, 0, 0, 0, []), (124, .iand, 0, 0, 0, []), (125, .iconst 1, 0, 0, 0, []), (126, .if_icmp .ne 24, 150, 0, 0, [])],
  [(129, .aload_n 0, 0, 0, 0, []), (130, .getfield 227, 12, 97, 0, [7115]), (133, .iload 6, 0, 0, 0, []), (135, .iaload, 0, 0, 0, []), (136, .iload 5, 0, 0, 0, []), (138, .if_icmp .le 12, 150, 0, 0, []), (141, .aload_n 0, 0, 0, 0, []), (142, .getfield 227, 12, 97, 0, [7115]), (145, .iload 6, 0, 0, 0, []), (147, .iaload, 0, 0, 0, []), (148, .istore 5, 0, 0, 0, []), (150, .iinc 6 1, 0, 0, 0, []), (153, .goto (-44), 109, 0, 0, []), (156, .aload_n 0, 0, 0, 0, []), (157, .getfield 227, 12, 97, 0, [7115])],
  [(160, .iload_n 3, 0, 0, 0, []), (161, .aload_n 0, 0, 0, 0, []), (162, .getfield 188, 12, 80, 0, [7098]), (165, .aload_n 0, 0, 0, 0, []), (166, .getfield 164, 12, 72, 0, [7090]), (169, .iload_n 3, 0, 0, 0, []), (170, .iaload, 0, 0, 0, []), (171, .bipush 7, 0, 0, 0, []), (173, .if_icmp .le 8, 181, 0, 0, []), (176, .bipush 7, 0, 0, 0, []), (178, .goto 9, 187, 0, 0, []), (181, .aload_n 0, 0, 0, 0, []), (182, .getfield 164, 12, 72, 0, [7090]), (185, .iload_n 3, 0, 0, 0, []), (186, .iaload, 0, 0, 0, []), (187, .iaload, 0, 0, 0, []), (188, .iload 5, 0, 0, 0, []), (190, .iadd, 0, 0, 0, []), (191, .iastore, 0, 0, 0, [])],
  [(192, .iinc 3 1, 0, 0, 0, []), (195, .goto (-136), 59, 0, 0, []), (198, .iinc 2 1, 0, 0, 0, []), (201, .goto (-150), 51, 0, 0, []), (204, .aload_n 0, 0, 0, 0, []), (205, .getfield 227, 12, 97, 0, [7115]), (208, .iload_n 1, 0, 0, 0, []), (209, .iaload, 0, 0, 0, []), (210, .ireturn, 0, 0, 0, [])]]
def gP292 : List (List gE) := [
  [(0, .aload_n 0, 0, 0, 0, []), (1, .iload_n 1, 0, 0, 0, []), (2, .invokevirtual 427, 250, 1, 12, [9029, 9031, 164, 1015, 9032]), (5, .ifCond .ne 5, 10, 0, 0, []), (8, .iconst (-1), 0, 0, 0, []), (9, .ireturn, 0, 0, 0, []), (10, .iload_n 2, 0, 0, 0, []), (11, .tableswitch 101 0 6 #[41, 48, 55, 61, 68, 87, 94], 0, 0, 0, [])],
  [(52, .aload_n 0, 0, 0, 0, []), (53, .getfield 146, 12, 66, 0, [7084]), (56, .iload_n 1, 0, 0, 0, []), (57, .iaload, 0, 0, 0, []), (58, .ireturn, 0, 0, 0, []), (59, .aload_n 0, 0, 0, 0, []), (60, .getfield 164, 12, 72, 0, [7090]), (63, .iload_n 1, 0, 0, 0, [])],
  [(64, .iaload, 0, 0, 0, []), (65, .ireturn, 0, 0, 0, []), (66, .aload_n 0, 0, 0, 0, []), (67, .iload_n 1, 0, 0, 0, []), (68, .invokevirtual 518, 291, 1, 12, [9180, 9182, 188, 1015, 9183]), (71, .ireturn, 0, 0, 0, []), (72, .aload_n 0, 0, 0, 0, []), (73, .getfield 161, 12, 71, 0, [7089]), (76, .iload_n 1, 0, 0, 0, []), (77, .iaload, 0, 0, 0, []), (78, .ireturn, 0, 0, 0, []), (79, .aload_n 0, 0, 0, 0, []), (80, .invokevirtual 515, 288, 0, 12, [9160, 9162, 184, 1015, 9163]), (83, .aload_n 0, 0, 0, 0, []), (84, .getfield 224, 12, 96, 0, [7114]), (87, .iload_n 1, 0, 0, 0, []), (88, .baload, 0, 0, 0, []), (89, .ifCond .eq 7, 96, 0, 0, []), (92, .iconst 1, 0, 0, 0, []), (93, .goto 4, 97, 0, 0, [])],
  [(96, .iconst 0, 0, 0, 0, []), (97, .ireturn, 0, 0, 0, []), (98, .aload_n 0, 0, 0, 0, []), (99, .getfield 167, 12, 73, 0, [7091]), (102, .iload_n 1, 0, 0, 0, []), (103, .iaload, 0, 0, 0, []), (104, .ireturn, 0, 0, 0, []), (105, .aload_n 0, 0, 0, 0, []), (106, .getfield 170, 12, 74, 0, [7092]), (109, .iload_n 1, 0, 0, 0, []), (110, .iaload, 0, 0, 0, []), (111, .ireturn, 0, 0, 0, []), (112, .iconst (-1), 0, 0, 0, []), (113, .ireturn, 0, 0, 0, [])]]
def gP293 : List (List gE) := [
  [(0, .aload_n 0, 0, 0, 0, []), (1, .iload_n 1, 0, 0, 0, []), (2, .invokevirtual 497, 282, 1, 12, [9119, 9121, 175, 1015, 9122]), (5, .ifCond .ne 5, 10, 0, 0, []), (8, .iconst (-1), 0, 0, 0, []), (9, .ireturn, 0, 0, 0, []), (10, .aload_n 0, 0, 0, 0, []), (11, .iload_n 1, 0, 0, 0, []), (12, .invokevirtual 458, 270, 1, 12, [9103, 9105, 172, 1015, 9106]), (15, .aload_n 0, 0, 0, 0, []), (16, .getfield 446, 12, 82, 0, [7100]), (19, .ireturn, 0, 0, 0, [])]]
def gP294 : List (List gE) := [
  [(0, .aload_n 0, 0, 0, 0, []), (1, .iload_n 1, 0, 0, 0, []), (2, .invokevirtual 497, 282, 1, 12, [9119, 9121, 175, 1015, 9122]), (5, .ifCond .ne 5, 10, 0, 0, []), (8, .iconst 0, 0, 0, 0, []), (9, .ireturn, 0, 0, 0, []), (10, .aload_n 0, 0, 0, 0, []), (11, .iload_n 1, 0, 0, 0, []), (12, .invokevirtual 458, 270, 1, 12, [9103, 9105, 172, 1015, 9106]), (15, .iload_n 2, 0, 0, 0, []), (16, .ifCond .lt 15, 31, 0, 0, []), (19, .iload_n 2, 0, 0, 0, []), (20, .aload_n 0, 0, 0, 0, []), (21, .getfield 446, 12, 82, 0, [7100]), (24, .if_icmp .ge 7, 31, 0, 0, []), (27, .iconst 1, 0, 0, 0, []), (28, .goto 4, 32, 0, 0, []), (31, .iconst 0, 0, 0, 0, [])],
  [(32, .ireturn, 0, 0, 0, [])]]
def gP295 : List (List gE) := [
  [(0, .aload_n 0, 0, 0, 0, []), (1, .iload_n 1, 0, 0, 0, []), (2, .iload_n 2, 0, 0, 0, []), (3, .invokevirtual 521, 294, 2, 12, [9192, 9194, 189, 1015, 9195]), (6, .ifCond .ne 5, 11, 0, 0, []), (9, .iconst (-1), 0, 0, 0, []), (10, .ireturn, 0, 0, 0, []), (11, .aload_n 0, 0, 0, 0, []), (12, .getfield 194, 12, 83, 0, [7101]), (15, .iload_n 2, 0, 0, 0, []), (16, .iaload, 0, 0, 0, []), (17, .istore 4, 0, 0, 0, []), (19, .iload_n 3, 0, 0, 0, []), (20, .tableswitch 77 0 3 #[32, 40, 61, 69], 0, 0, 0, [])],
  [(52, .aload_n 0, 0, 0, 0, []), (53, .getfield 55, 12, 24, 0, [7042]), (56, .iload 4, 0, 0, 0, []), (58, .iaload, 0, 0, 0, []), (59, .ireturn, 0, 0, 0, []), (60, .aload_n 0, 0, 0, 0, []), (61, .getfield 55, 12, 24, 0, [7042])],
  [(64, .iload 4, 0, 0, 0, []), (66, .iaload, 0, 0, 0, []), (67, .iconst 2, 0, 0, 0, []), (68, .if_icmp .ge 11, 79, 0, 0, []), (71, .aload_n 0, 0, 0, 0, []), (72, .iload_n 2, 0, 0, 0, []), (73, .invokevirtual 452, 271, 1, 12, [9135, 9137, 179, 1015, 9138]), (76, .goto 4, 80, 0, 0, []), (79, .iconst (-1), 0, 0, 0, []), (80, .ireturn, 0, 0, 0, []), (81, .aload_n 0, 0, 0, 0, []), (82, .getfield 61, 12, 26, 0, [7044]), (85, .iload 4, 0, 0, 0, []), (87, .iaload, 0, 0, 0, []), (88, .ireturn, 0, 0, 0, []), (89, .aload_n 0, 0, 0, 0, []), (90, .getfield 58, 12, 25, 0, [7043]), (93, .iload 4, 0, 0, 0, []), (95, .iaload, 0, 0, 0, [])],
  [(96, .ireturn, 0, 0, 0, []), (97, .iconst (-1), 0, 0, 0, []), (98, .ireturn, 0, 0, 0, [])]]
def gP296 : List (List gE) := [
  [(0, .iconst 0, 0, 0, 0, []), (1, .istore_n 3, 0, 0, 0, []), (2, .iconst 0, 0, 0, 0, []), (3, .istore 4, 0, 0, 0, []), (5, .iload 4, 0, 0, 0, []), (7, .bipush 60, 0, 0, 0, []), (9, .if_icmp .ge 84, 93, 0, 0, []), (12, .aload_n 0, 0, 0, 0, []), (13, .getfield 230, 12, 98, 0, [7116]), (16, .iload 4, 0, 0, 0, []), (18, .iconst 0, 0, 0, 0, []), (19, .bastore, 0, 0, 0, []), (20, .iconst 0, 0, 0, 0, []), (21, .istore 5, 0, 0, 0, []), (23, .iload 5, 0, 0, 0, []), (25, .iconst 4, 0, 0, 0, []), (26, .if_icmp .ge 48, 74, 0, 0, []), (29, .iload 4, 0, 0, 0, []), (31, .aload_n 0, 0, 0, 0, [])],
  [(32, .getfield 137, 12, 61, 0, [7079]), (35, .aload_n 0, 0, 0, 0, []), (36, .getfield 40, 12, 19, 0, [7037]), (39, .iload_n 1, 0, 0, 0, []), (40, .iaload, 0, 0, 0, []), (41, .iaload, 0, 0, 0, []), (42, .if_icmp .ge 32, 74, 0, 0, []), (45, .aload_n 0, 0, 0, 0, []), (46, .iload_n 2, 0, 0, 0, []), (47, .iconst 4, 0, 0, 0, []), (48, .iload 4, 0, 0, 0, []), (50, .imul, 0, 0, 0, []), (51, .iload 5, 0, 0, 0, []), (53, .iadd, 0, 0, 0, []), (54, .invokevirtual 467, 273, 2, 12, [9131, 9133, 178, 1015, 9134]), (57, .ifCond .eq 11, 68, 0, 0, []), (60, .aload_n 0, 0, 0, 0, []), (61, .getfield 230, 12, 98, 0, [7116])],
  [(64, .iload 4, 0, 0, 0, []), (66, .iconst 1, 0, 0, 0, []), (67, .bastore, 0, 0, 0, []), (68, .iinc 5 1, 0, 0, 0, []), (71, .goto (-48), 23, 0, 0, []), (74, .aload_n 0, 0, 0, 0, []), (75, .getfield 230, 12, 98, 0, [7116]), (78, .iload 4, 0, 0, 0, []), (80, .baload, 0, 0, 0, []), (81, .ifCond .eq 6, 87, 0, 0, []), (84, .iinc 3 1, 0, 0, 0, []), (87, .iinc 4 1, 0, 0, 0, []), (90, .goto (-85), 5, 0, 0, []), (93, .iload_n 3, 0, 0, 0, []), (94, .ireturn, 0, 0, 0, [])]]
def gP297 : List (List gE) := [
  [(0, .aload_n 0, 0, 0, 0, []), (1, .iload_n 1, 0, 0, 0, []), (2, .iload_n 2, 0, 0, 0, []), (3, .invokevirtual 521, 294, 2, 12, [9192, 9194, 189, 1015, 9195]), (6, .ifCond .eq 30, 36, 0, 0, []), (9, .aload_n 0, 0, 0, 0, []), (10, .getfield 55, 12, 24, 0, [7042]), (13, .aload_n 0, 0, 0, 0, []), (14, .getfield 194, 12, 83, 0, [7101]), (17, .iload_n 2, 0, 0, 0, []), (18, .iaload, 0, 0, 0, []), (19, .iaload, 0, 0, 0, []), (20, .ifCond .ne 16, 36, 0, 0, []), (23, .aload_n 0, 0, 0, 0, []), (24, .iload_n 1, 0, 0, 0, []), (25, .iload_n 3, 0, 0, 0, []), (26, .invokevirtual 500, 284, 2, 12, [9115, 9117, 174, 1015, 9118]), (29, .ifCond .eq 7, 36, 0, 0, [])],
  [(32, .iconst 1, 0, 0, 0, []), (33, .goto 4, 37, 0, 0, []), (36, .iconst 0, 0, 0, 0, []), (37, .ireturn, 0, 0, 0, [])]]
def gP298 : List (List gE) := [
  [(0, .aload_n 0, 0, 0, 0, []), (1, .iload_n 1, 0, 0, 0, []), (2, .iload_n 2, 0, 0, 0, []), (3, .iload_n 3, 0, 0, 0, []), (4, .invokevirtual 524, 297, 3, 12, [9200, 9202, 190, 1015, 9203]), (7, .ifCond .ne 5, 12, 0, 0, []), (10, .iconst (-1), 0, 0, 0, []), (11, .ireturn, 0, 0, 0, []), (12, .aload_n 0, 0, 0, 0, []), (13, .iload_n 1, 0, 0, 0, []), (14, .iload_n 2, 0, 0, 0, []), (15, .invokevirtual 527, 296, 2, 12, [9204, 9206, 191, 1015, 9207]), (18, .istore 4, 0, 0, 0, []), (20, .aload_n 0, 0, 0, 0, []), (21, .getfield 40, 12, 19, 0, [7037]), (24, .iload_n 1, 0, 0, 0, []), (25, .iaload, 0, 0, 0, []), (26, .istore 5, 0, 0, 0, []), (28, .iconst 0, 0, 0, 0, []), (29, .istore 6, 0, 0, 0, []), (31, .iconst 0, 0, 0, 0, [])],
  [(32, .istore 7, 0, 0, 0, []), (34, .iconst 0, 0, 0, 0, []), (35, .istore 8, 0, 0, 0, []), (37, .iconst 1, 0, 0, 0, []), (38, .istore 9, 0, 0, 0, []), (40, .iconst 0, 0, 0, 0, []), (41, .istore 10, 0, 0, 0, []), (43, .iload 10, 0, 0, 0, []), (45, .bipush 60, 0, 0, 0, []), (47, .if_icmp .ge 125, 172, 0, 0, []), (50, .aload_n 0, 0, 0, 0, []), (51, .getfield 230, 12, 98, 0, [7116]), (54, .iload 10, 0, 0, 0, []), (56, .baload, 0, 0, 0, []), (57, .ifCond .ne 6, 63, 0, 0, []), (60, .goto 106, 166, 0, 0, []), (63, .iconst 0, 0, 0, 0, [])],
  [(64, .istore 11, 0, 0, 0, []), (66, .iconst 0, 0, 0, 0, []), (67, .istore 12, 0, 0, 0, []), (69, .iload 12, 0, 0, 0, []), (71, .aload_n 0, 0, 0, 0, []), (72, .getfield 137, 12, 61, 0, [7079]), (75, .iload_n 3, 0, 0, 0, []), (76, .iaload, 0, 0, 0, []), (77, .if_icmp .ge 71, 148, 0, 0, []), (80, .aload_n 0, 0, 0, 0, []), (81, .iload_n 3, 0, 0, 0, []), (82, .iload 12, 0, 0, 0, []), (84, .iload 5, 0, 0, 0, []), (86, .invokevirtual 410, 248, 3, 12, [9010, 9012, 162, 1015, 9013]), (89, .iload 10, 0, 0, 0, []), (91, .if_icmp .eq 6, 97, 0, 0, []), (94, .goto 48, 142, 0, 0, [])],
  [(97, .iload 11, 0, 0, 0, []), (99, .ifCond .ne 40, 139, 0, 0, []), (102, .iload 6, 0, 0, 0, []), (104, .ifCond .ne 10, 114, 0, 0, []), (107, .iload 12, 0, 0, 0, []), (109, .iload 10, 0, 0, 0, []), (111, .isub, 0, 0, 0, []), (112, .istore 8, 0, 0, 0, []), (114, .iload 9, 0, 0, 0, []), (116, .ifCond .eq 17, 133, 0, 0, []), (119, .iload 12, 0, 0, 0, []), (121, .iload 10, 0, 0, 0, []), (123, .isub, 0, 0, 0, []), (124, .iload 8, 0, 0, 0, []), (126, .if_icmp .ne 7, 133, 0, 0, [])],
  [(129, .iconst 1, 0, 0, 0, []), (130, .goto 4, 134, 0, 0, []), (133, .iconst 0, 0, 0, 0, []), (134, .istore 9, 0, 0, 0, []), (136, .iinc 6 1, 0, 0, 0, []), (139, .iinc 11 1, 0, 0, 0, []), (142, .iinc 12 1, 0, 0, 0, []), (145, .goto (-76), 69, 0, 0, []), (148, .iload 7, 0, 0, 0, []), (150, .ifCond .ne 9, 159, 0, 0, []), (153, .iload 11, 0, 0, 0, []), (155, .iconst 1, 0, 0, 0, []), (156, .if_icmp .le 7, 163, 0, 0, []), (159, .iconst 1, 0, 0, 0, [])],
  [(160, .goto 4, 164, 0, 0, []), (163, .iconst 0, 0, 0, 0, []), (164, .istore 7, 0, 0, 0, []), (166, .iinc 10 1, 0, 0, 0, []), (169, .goto (-126), 43, 0, 0, []), (172, .iload 4, 0, 0, 0, []), (174, .ifCond .eq 8, 182, 0, 0, []), (177, .iload 6, 0, 0, 0, []), (179, .ifCond .ne 5, 184, 0, 0, []), (182, .iconst 2, 0, 0, 0, []), (183, .ireturn, 0, 0, 0, []), (184, .iload 7, 0, 0, 0, []), (186, .ifCond .eq 5, 191, 0, 0, []), (189, .iconst 3, 0, 0, 0, []), (190, .ireturn, 0, 0, 0, []), (191, .iload 6, 0, 0, 0, [])],
  [(193, .iload 4, 0, 0, 0, []), (195, .if_icmp .ne 12, 207, 0, 0, []), (198, .iload 9, 0, 0, 0, []), (200, .ifCond .eq 7, 207, 0, 0, []), (203, .iconst 0, 0, 0, 0, []), (204, .goto 4, 208, 0, 0, []), (207, .iconst 1, 0, 0, 0, []), (208, .ireturn, 0, 0, 0, [])]]
def gP299 : List (List gE) := [
  [(0, .aload_n 0, 0, 0, 0, []), (1, .iload_n 1, 0, 0, 0, []), (2, .iload_n 2, 0, 0, 0, []), (3, .iload_n 3, 0, 0, 0, []), (4, .invokevirtual 524, 297, 3, 12, [9200, 9202, 190, 1015, 9203]), (7, .ifCond .ne 5, 12, 0, 0, []), (10, .iconst (-1), 0, 0, 0, []), (11, .ireturn, 0, 0, 0, []), (12, .aload_n 0, 0, 0, 0, []), (13, .iload_n 1, 0, 0, 0, []), (14, .iload_n 2, 0, 0, 0, []), (15, .invokevirtual 527, 296, 2, 12, [9204, 9206, 191, 1015, 9207]), (18, .istore 4, 0, 0, 0, []), (20, .iconst 0, 0, 0, 0, []), (21, .istore 5, 0, 0, 0, []), (23, .iload 5, 0, 0, 0, []), (25, .aload_n 0, 0, 0, 0, []), (26, .getfield 137, 12, 61, 0, [7079]), (29, .iload_n 3, 0, 0, 0, []), (30, .iaload, 0, 0, 0, []), (31, .if_icmp .ge 48, 79, 0, 0, [])],
  [(34, .iload 4, 0, 0, 0, []), (36, .ifCond .le 43, 79, 0, 0, []), (39, .aload_n 0, 0, 0, 0, []), (40, .iload_n 3, 0, 0, 0, []), (41, .iload 5, 0, 0, 0, []), (43, .aload_n 0, 0, 0, 0, []), (44, .getfield 40, 12, 19, 0, [7037]), (47, .iload_n 1, 0, 0, 0, []), (48, .iaload, 0, 0, 0, []), (49, .invokevirtual 410, 248, 3, 12, [9010, 9012, 162, 1015, 9013]), (52, .istore 6, 0, 0, 0, []), (54, .iload 6, 0, 0, 0, []), (56, .iconst (-1), 0, 0, 0, []), (57, .if_icmp .eq 16, 73, 0, 0, []), (60, .aload_n 0, 0, 0, 0, []), (61, .getfield 230, 12, 98, 0, [7116])],
  [(64, .iload 6, 0, 0, 0, []), (66, .baload, 0, 0, 0, []), (67, .ifCond .eq 6, 73, 0, 0, []), (70, .iload 5, 0, 0, 0, []), (72, .ireturn, 0, 0, 0, []), (73, .iinc 5 1, 0, 0, 0, []), (76, .goto (-53), 23, 0, 0, []), (79, .iconst (-1), 0, 0, 0, []), (80, .ireturn, 0, 0, 0, [])]]
def gP300 : List (List gE) := [
  [(0, .aload_n 0, 0, 0, 0, []), (1, .iload_n 1, 0, 0, 0, []), (2, .invokevirtual 497, 282, 1, 12, [9119, 9121, 175, 1015, 9122]), (5, .ifCond .eq 7, 12, 0, 0, []), (8, .iload_n 2, 0, 0, 0, []), (9, .ifCond .ge 5, 14, 0, 0, []), (12, .iconst (-1), 0, 0, 0, []), (13, .ireturn, 0, 0, 0, []), (14, .aload_n 0, 0, 0, 0, []), (15, .iload_n 1, 0, 0, 0, []), (16, .invokevirtual 458, 270, 1, 12, [9103, 9105, 172, 1015, 9106]), (19, .iload_n 2, 0, 0, 0, []), (20, .istore_n 3, 0, 0, 0, []), (21, .iconst 0, 0, 0, 0, []), (22, .istore 4, 0, 0, 0, []), (24, .iload 4, 0, 0, 0, []), (26, .aload_n 0, 0, 0, 0, []), (27, .getfield 446, 12, 82, 0, [7100]), (30, .if_icmp .ge 166, 196, 0, 0, [])],
  [(33, .iload 4, 0, 0, 0, []), (35, .iconst 1, 0, 0, 0, []), (36, .iadd, 0, 0, 0, []), (37, .istore 5, 0, 0, 0, []), (39, .iload 5, 0, 0, 0, []), (41, .aload_n 0, 0, 0, 0, []), (42, .getfield 446, 12, 82, 0, [7100]), (45, .if_icmp .ge 145, 190, 0, 0, []), (48, .aload_n 0, 0, 0, 0, []), (49, .getfield 55, 12, 24, 0, [7042]), (52, .aload_n 0, 0, 0, 0, []), (53, .getfield 194, 12, 83, 0, [7101]), (56, .iload 4, 0, 0, 0, []), (58, .iaload, 0, 0, 0, []), (59, .iaload, 0, 0, 0, []), (60, .iconst 1, 0, 0, 0, []), (61, .if_icmp .ne 123, 184, 0, 0, [])],
  [(64, .aload_n 0, 0, 0, 0, []), (65, .getfield 55, 12, 24, 0, [7042]), (68, .aload_n 0, 0, 0, 0, []), (69, .getfield 194, 12, 83, 0, [7101]), (72, .iload 5, 0, 0, 0, []), (74, .iaload, 0, 0, 0, []), (75, .iaload, 0, 0, 0, []), (76, .iconst 1, 0, 0, 0, []), (77, .if_icmp .ne 107, 184, 0, 0, []), (80, .aload_n 0, 0, 0, 0, []), (81, .getfield 61, 12, 26, 0, [7044]), (84, .aload_n 0, 0, 0, 0, []), (85, .getfield 194, 12, 83, 0, [7101]), (88, .iload 4, 0, 0, 0, []), (90, .iaload, 0, 0, 0, []), (91, .iaload, 0, 0, 0, []), (92, .aload_n 0, 0, 0, 0, []), (93, .getfield 61, 12, 26, 0, [7044])],
  [(96, .aload_n 0, 0, 0, 0, []), (97, .getfield 194, 12, 83, 0, [7101]), (100, .iload 5, 0, 0, 0, []), (102, .iaload, 0, 0, 0, []), (103, .iaload, 0, 0, 0, []), (104, .if_icmp .eq 6, 110, 0, 0, []), (107, .goto 77, 184, 0, 0, []), (110, .aload_n 0, 0, 0, 0, []), (111, .iload 5, 0, 0, 0, []), (113, .invokevirtual 452, 271, 1, 12, [9135, 9137, 179, 1015, 9138]), (116, .aload_n 0, 0, 0, 0, []), (117, .iload 4, 0, 0, 0, []), (119, .invokevirtual 452, 271, 1, 12, [9135, 9137, 179, 1015, 9138]), (122, .if_icmp .ge 8, 130, 0, 0, []), (125, .iload 5, 0, 0, 0, []), (127, .goto 5, 132, 0, 0, [])],
  [(130, .iload 4, 0, 0, 0, []), (132, .istore 6, 0, 0, 0, []), (134, .iload 6, 0, 0, 0, []), (136, .iload 4, 0, 0, 0, []), (138, .if_icmp .ne 8, 146, 0, 0, []), (141, .iload 5, 0, 0, 0, []), (143, .goto 5, 148, 0, 0, []), (146, .iload 4, 0, 0, 0, []), (148, .istore 7, 0, 0, 0, []), (150, .aload_n 0, 0, 0, 0, []), (151, .iload 7, 0, 0, 0, []), (153, .invokevirtual 452, 271, 1, 12, [9135, 9137, 179, 1015, 9138]), (156, .aload_n 0, 0, 0, 0, []), (157, .iload 6, 0, 0, 0, []), (159, .invokevirtual 482, 272, 1, 12, [9143, 9145, 181, 1015, 9146])],
  [(162, .if_icmp .lt 6, 168, 0, 0, []), (165, .goto 19, 184, 0, 0, []), (168, .iload_n 3, 0, 0, 0, []), (169, .ifCond .ne 12, 181, 0, 0, []), (172, .bipush 64, 0, 0, 0, []), (174, .iload 4, 0, 0, 0, []), (176, .imul, 0, 0, 0, []), (177, .iload 5, 0, 0, 0, []), (179, .iadd, 0, 0, 0, []), (180, .ireturn, 0, 0, 0, []), (181, .iinc 3 (-1), 0, 0, 0, []), (184, .iinc 5 1, 0, 0, 0, []), (187, .goto (-148), 39, 0, 0, []), (190, .iinc 4 1, 0, 0, 0, [])],
  [(193, .goto (-169), 24, 0, 0, []), (196, .iconst (-1), 0, 0, 0, []), (197, .ireturn, 0, 0, 0, [])]]
def gP301 : List (List gE) := [
  [(0, .ldc2_w 530, 0, 0, -1, [9224]), (3, .lstore_n 3, 0, 0, 0, []), (4, .iconst 0, 0, 0, 0, []), (5, .istore 5, 0, 0, 0, []), (7, .iload 5, 0, 0, 0, []), (9, .iconst 4, 0, 0, 0, []), (10, .iload_n 2, 0, 0, 0, []), (11, .imul, 0, 0, 0, []), (12, .iadd, 0, 0, 0, []), (13, .iload_n 1, 0, 0, 0, []), (14, .if_icmp .gt 78, 92, 0, 0, []), (17, .lconst 0, 0, 0, 0, []), (18, .lstore 6, 0, 0, 0, []), (20, .iload 5, 0, 0, 0, []), (22, .istore 8, 0, 0, 0, []), (24, .iload 8, 0, 0, 0, []), (26, .iload 5, 0, 0, 0, []), (28, .iconst 4, 0, 0, 0, []), (29, .iload_n 2, 0, 0, 0, []), (30, .imul, 0, 0, 0, []), (31, .iadd, 0, 0, 0, [])],
  [(32, .if_icmp .ge 44, 76, 0, 0, []), (35, .lload 6, 0, 0, 0, []), (37, .aload_n 0, 0, 0, 0, []), (38, .getfield 233, 12, 99, 0, [7117]), (41, .iload 8, 0, 0, 0, []), (43, .iaload, 0, 0, 0, []), (44, .ifCond .ge 15, 59, 0, 0, []), (47, .aload_n 0, 0, 0, 0, []), (48, .getfield 233, 12, 99, 0, [7117]), (51, .iload 8, 0, 0, 0, []), (53, .iaload, 0, 0, 0, []), (54, .ineg, 0, 0, 0, []), (55, .i2l, 0, 0, 0, []), (56, .goto 11, 67, 0, 0, []), (59, .aload_n 0, 0, 0, 0, []), (60, .getfield 233, 12, 99, 0, [7117]), (63, .iload 8, 0, 0, 0, [])],
  [(65, .iaload, 0, 0, 0, []), (66, .i2l, 0, 0, 0, []), (67, .ladd, 0, 0, 0, []), (68, .lstore 6, 0, 0, 0, []), (70, .iinc 8 1, 0, 0, 0, []), (73, .goto (-49), 24, 0, 0, []), (76, .lload 6, 0, 0, 0, []), (78, .lload_n 3, 0, 0, 0, []), (79, .lcmp, 0, 0, 0, []), (80, .ifCond .le 6, 86, 0, 0, []), (83, .lload 6, 0, 0, 0, []), (85, .lstore_n 3, 0, 0, 0, []), (86, .iinc 5 4, 0, 0, 0, []), (89, .goto (-82), 7, 0, 0, []), (92, .lload_n 3, 0, 0, 0, []), (93, .lconst 0, 0, 0, 0, []), (94, .lcmp, 0, 0, 0, []), (95, .ifCond .lt 5, 100, 0, 0, [])],
  [(98, .lload_n 3, 0, 0, 0, []), (99, .lreturn, 0, 0, 0, []), (100, .lconst 0, 0, 0, 0, []), (101, .lstore 5, 0, 0, 0, []), (103, .iconst 0, 0, 0, 0, []), (104, .istore 7, 0, 0, 0, []), (106, .iload 7, 0, 0, 0, []), (108, .iload_n 1, 0, 0, 0, []), (109, .if_icmp .ge 44, 153, 0, 0, []), (112, .lload 5, 0, 0, 0, []), (114, .aload_n 0, 0, 0, 0, []), (115, .getfield 233, 12, 99, 0, [7117]), (118, .iload 7, 0, 0, 0, []), (120, .iaload, 0, 0, 0, []), (121, .ifCond .ge 15, 136, 0, 0, []), (124, .aload_n 0, 0, 0, 0, []), (125, .getfield 233, 12, 99, 0, [7117])],
  [(128, .iload 7, 0, 0, 0, []), (130, .iaload, 0, 0, 0, []), (131, .ineg, 0, 0, 0, []), (132, .i2l, 0, 0, 0, []), (133, .goto 11, 144, 0, 0, []), (136, .aload_n 0, 0, 0, 0, []), (137, .getfield 233, 12, 99, 0, [7117]), (140, .iload 7, 0, 0, 0, []), (142, .iaload, 0, 0, 0, []), (143, .i2l, 0, 0, 0, []), (144, .ladd, 0, 0, 0, []), (145, .lstore 5, 0, 0, 0, []), (147, .iinc 7 1, 0, 0, 0, []), (150, .goto (-44), 106, 0, 0, []), (153, .lload 5, 0, 0, 0, []), (155, .lreturn, 0, 0, 0, [])]]
def gP302 : List (List gE) := [
  [(0, .aload_n 0, 0, 0, 0, []), (1, .iload_n 1, 0, 0, 0, []), (2, .invokevirtual 427, 250, 1, 12, [9029, 9031, 164, 1015, 9032]), (5, .ifCond .eq 13, 18, 0, 0, []), (8, .iload_n 2, 0, 0, 0, []), (9, .iconst 1, 0, 0, 0, []), (10, .bipush 60, 0, 0, 0, []), (12, .invokestatic 419, 251, 3, 0, [9018, 9019, 1015, 9020]), (15, .ifCond .ne 5, 20, 0, 0, []), (18, .iconst (-1), 0, 0, 0, []), (19, .ireturn, 0, 0, 0, []), (20, .aload_n 0, 0, 0, 0, []), (21, .iload_n 1, 0, 0, 0, []), (22, .invokevirtual 440, 265, 1, 12, [9075, 9077, 167, 1015, 9078]), (25, .istore_n 3, 0, 0, 0, []), (26, .iconst 0, 0, 0, 0, []), (27, .istore 4, 0, 0, 0, []), (29, .iload 4, 0, 0, 0, []), (31, .iload_n 3, 0, 0, 0, [])],
  [(32, .if_icmp .ge 23, 55, 0, 0, []), (35, .aload_n 0, 0, 0, 0, []), (36, .getfield 233, 12, 99, 0, [7117]), (39, .iload 4, 0, 0, 0, []), (41, .aload_n 0, 0, 0, 0, []), (42, .iload_n 1, 0, 0, 0, []), (43, .iload 4, 0, 0, 0, []), (45, .invokevirtual 443, 266, 2, 12, [9083, 9085, 168, 1015, 9086]), (48, .iastore, 0, 0, 0, []), (49, .iinc 4 1, 0, 0, 0, []), (52, .goto (-23), 29, 0, 0, []), (55, .aload_n 0, 0, 0, 0, []), (56, .iload_n 3, 0, 0, 0, []), (57, .iload_n 2, 0, 0, 0, []), (58, .invokevirtual 532, 301, 2, 12, [9220, 9222, 192, 1015, 9223]), (61, .l2i, 0, 0, 0, []), (62, .ireturn, 0, 0, 0, [])]]
def gP303 : List (List gE) := [
  [(0, .iconst 0, 0, 0, 0, []), (1, .istore_n 1, 0, 0, 0, []), (2, .iconst 0, 0, 0, 0, []), (3, .istore_n 2, 0, 0, 0, []), (4, .iload_n 2, 0, 0, 0, []), (5, .bipush 8, 0, 0, 0, []), (7, .if_icmp .ge 17, 24, 0, 0, []), (10, .iload_n 1, 0, 0, 0, []), (11, .iload_n 0, 0, 0, 0, []), (12, .iload_n 2, 0, 0, 0, []), (13, .ishr, 0, 0, 0, []), (14, .iconst 1, 0, 0, 0, []), (15, .iand, 0, 0, 0, []), (16, .iadd, 0, 0, 0, []), (17, .istore_n 1, 0, 0, 0, []), (18, .iinc 2 1, 0, 0, 0, []), (21, .goto (-17), 4, 0, 0, []), (24, .iload_n 1, 0, 0, 0, []), (25, .ireturn, 0, 0, 0, [])]]
def gP304 : List (List gE) := [
  [(0, .iconst (-1), 0, 0, 0, []), (1, .istore_n 2, 0, 0, 0, []), (2, .aload_n 0, 0, 0, 0, []), (3, .getfield 79, 12, 36, 0, [7054]), (6, .aload_n 0, 0, 0, 0, []), (7, .getfield 317, 12, 34, 0, [7052]), (10, .iaload, 0, 0, 0, []), (11, .iconst 1, 0, 0, 0, []), (12, .isub, 0, 0, 0, []), (13, .istore_n 3, 0, 0, 0, []), (14, .iload_n 3, 0, 0, 0, []), (15, .ifCond .lt 37, 52, 0, 0, []), (18, .aload_n 0, 0, 0, 0, []), (19, .getfield 82, 12, 37, 0, [7055]), (22, .bipush 12, 0, 0, 0, []), (24, .aload_n 0, 0, 0, 0, []), (25, .getfield 317, 12, 34, 0, [7052]), (28, .imul, 0, 0, 0, []), (29, .iload_n 3, 0, 0, 0, []), (30, .iadd, 0, 0, 0, []), (31, .iaload, 0, 0, 0, [])],
  [(32, .iconst 1, 0, 0, 0, []), (33, .if_icmp .ne 13, 46, 0, 0, []), (36, .bipush 12, 0, 0, 0, []), (38, .aload_n 0, 0, 0, 0, []), (39, .getfield 317, 12, 34, 0, [7052]), (42, .imul, 0, 0, 0, []), (43, .iload_n 3, 0, 0, 0, []), (44, .iadd, 0, 0, 0, []), (45, .istore_n 2, 0, 0, 0, []), (46, .iinc 3 (-1), 0, 0, 0, []), (49, .goto (-35), 14, 0, 0, []), (52, .aload_n 0, 0, 0, 0, []), (53, .iload_n 1, 0, 0, 0, []), (54, .invokevirtual 497, 282, 1, 12, [9119, 9121, 175, 1015, 9122]), (57, .ifCond .eq 8, 65, 0, 0, []), (60, .iload_n 2, 0, 0, 0, []), (61, .iconst (-1), 0, 0, 0, []), (62, .if_icmp .ne 5, 67, 0, 0, [])],
  [(65, .iconst (-1), 0, 0, 0, []), (66, .ireturn, 0, 0, 0, []), (67, .aload_n 0, 0, 0, 0, []), (68, .iload_n 1, 0, 0, 0, []), (69, .invokevirtual 458, 270, 1, 12, [9103, 9105, 172, 1015, 9106]), (72, .iconst 0, 0, 0, 0, []), (73, .istore_n 3, 0, 0, 0, []), (74, .iconst 0, 0, 0, 0, []), (75, .istore 4, 0, 0, 0, []), (77, .iload 4, 0, 0, 0, []), (79, .aload_n 0, 0, 0, 0, []), (80, .getfield 446, 12, 82, 0, [7100]), (83, .if_icmp .ge 27, 110, 0, 0, []), (86, .aload_n 0, 0, 0, 0, []), (87, .getfield 55, 12, 24, 0, [7042]), (90, .aload_n 0, 0, 0, 0, []), (91, .getfield 194, 12, 83, 0, [7101]), (94, .iload 4, 0, 0, 0, [])],
  [(96, .iaload, 0, 0, 0, []), (97, .iaload, 0, 0, 0, []), (98, .ifCond .ne 6, 104, 0, 0, []), (101, .iinc 3 1, 0, 0, 0, []), (104, .iinc 4 1, 0, 0, 0, []), (107, .goto (-30), 77, 0, 0, []), (110, .iload_n 3, 0, 0, 0, []), (111, .bipush 8, 0, 0, 0, []), (113, .if_icmp .le 6, 119, 0, 0, []), (116, .bipush 8, 0, 0, 0, []), (118, .istore_n 3, 0, 0, 0, []), (119, .bipush (-2), 0, 0, 0, []), (121, .istore 4, 0, 0, 0, []), (123, .iconst 0, 0, 0, 0, []), (124, .istore 5, 0, 0, 0, []), (126, .iload 5, 0, 0, 0, [])],
  [(128, .iconst 1, 0, 0, 0, []), (129, .iload_n 3, 0, 0, 0, []), (130, .ishl, 0, 0, 0, []), (131, .if_icmp .ge 145, 276, 0, 0, []), (134, .iload 5, 0, 0, 0, []), (136, .iload 4, 0, 0, 0, []), (138, .ixor, 0, 0, 0, []), (139, .istore 6, 0, 0, 0, []), (141, .iload 4, 0, 0, 0, []), (143, .bipush (-2), 0, 0, 0, []), (145, .if_icmp .eq 44, 189, 0, 0, []), (148, .iload 5, 0, 0, 0, []), (150, .invokestatic 536, 303, 1, 0, [9229, 9230, 1015, 9231]), (153, .iload 4, 0, 0, 0, []), (155, .invokestatic 536, 303, 1, 0, [9229, 9230, 1015, 9231]), (158, .if_icmp .gt 112, 270, 0, 0, [])],
  [(161, .iload 5, 0, 0, 0, []), (163, .invokestatic 536, 303, 1, 0, [9229, 9230, 1015, 9231]), (166, .iload 4, 0, 0, 0, []), (168, .invokestatic 536, 303, 1, 0, [9229, 9230, 1015, 9231]), (171, .if_icmp .ne 18, 189, 0, 0, []), (174, .iload 5, 0, 0, 0, []), (176, .iload 6, 0, 0, 0, []), (178, .iand, 0, 0, 0, []), (179, .iload 6, 0, 0, 0, []), (181, .ineg, 0, 0, 0, []), (182, .iand, 0, 0, 0, []), (183, .ifCond .ne 6, 189, 0, 0, []), (186, .goto 84, 270, 0, 0, []), (189, .aload_n 0, 0, 0, 0, []), (190, .iload 5, 0, 0, 0, [])],
  [(192, .putfield 464, 12, 94, 0, [7112]), (195, .aload_n 0, 0, 0, 0, []), (196, .iload_n 1, 0, 0, 0, []), (197, .invokevirtual 494, 274, 1, 12, [9127, 9129, 177, 1015, 9130]), (200, .aload_n 0, 0, 0, 0, []), (201, .iconst 0, 0, 0, 0, []), (202, .putfield 464, 12, 94, 0, [7112]), (205, .iconst 0, 0, 0, 0, []), (206, .istore 7, 0, 0, 0, []), (208, .iload 7, 0, 0, 0, []), (210, .aload_n 0, 0, 0, 0, []), (211, .getfield 461, 12, 93, 0, [7111]), (214, .if_icmp .ge 23, 237, 0, 0, []), (217, .aload_n 0, 0, 0, 0, []), (218, .getfield 233, 12, 99, 0, [7117]), (221, .iload 7, 0, 0, 0, []), (223, .aload_n 0, 0, 0, 0, [])],
  [(224, .getfield 218, 12, 92, 0, [7110]), (227, .iload 7, 0, 0, 0, []), (229, .iaload, 0, 0, 0, []), (230, .iastore, 0, 0, 0, []), (231, .iinc 7 1, 0, 0, 0, []), (234, .goto (-26), 208, 0, 0, []), (237, .aload_n 0, 0, 0, 0, []), (238, .aload_n 0, 0, 0, 0, []), (239, .getfield 461, 12, 93, 0, [7111]), (242, .aload_n 0, 0, 0, 0, []), (243, .getfield 100, 12, 43, 0, [7061]), (246, .iload_n 2, 0, 0, 0, []), (247, .iaload, 0, 0, 0, []), (248, .invokevirtual 532, 301, 2, 12, [9220, 9222, 192, 1015, 9223]), (251, .ldc2_w 474, 0, 0, 100, [9147]), (254, .aload_n 0, 0, 0, 0, []), (255, .getfield 97, 12, 42, 0, [7060])],
  [(258, .iload_n 2, 0, 0, 0, []), (259, .iaload, 0, 0, 0, []), (260, .i2l, 0, 0, 0, []), (261, .lmul, 0, 0, 0, []), (262, .lcmp, 0, 0, 0, []), (263, .ifCond .gt 7, 270, 0, 0, []), (266, .iload 5, 0, 0, 0, []), (268, .istore 4, 0, 0, 0, []), (270, .iinc 5 1, 0, 0, 0, []), (273, .goto (-147), 126, 0, 0, []), (276, .iload 4, 0, 0, 0, []), (278, .ireturn, 0, 0, 0, [])]]
def gP305 : List (List gE) := [
  [(0, .aload_n 0, 0, 0, 0, []), (1, .iload_n 1, 0, 0, 0, []), (2, .invokevirtual 427, 250, 1, 12, [9029, 9031, 164, 1015, 9032]), (5, .ifCond .eq 23, 28, 0, 0, []), (8, .aload_n 0, 0, 0, 0, []), (9, .getfield 146, 12, 66, 0, [7084]), (12, .iload_n 1, 0, 0, 0, []), (13, .iaload, 0, 0, 0, []), (14, .iconst 1, 0, 0, 0, []), (15, .if_icmp .ne 13, 28, 0, 0, []), (18, .aload_n 0, 0, 0, 0, []), (19, .getfield 149, 12, 67, 0, [7085]), (22, .iload_n 1, 0, 0, 0, []), (23, .iaload, 0, 0, 0, []), (24, .iconst (-1), 0, 0, 0, []), (25, .if_icmp .ne 5, 30, 0, 0, []), (28, .iconst (-1), 0, 0, 0, []), (29, .ireturn, 0, 0, 0, []), (30, .aload_n 0, 0, 0, 0, []), (31, .getfield 173, 12, 75, 0, [7093])],
  [(34, .sipush 240, 0, 0, 0, []), (37, .iload_n 1, 0, 0, 0, []), (38, .imul, 0, 0, 0, []), (39, .aload_n 0, 0, 0, 0, []), (40, .getfield 155, 12, 69, 0, [7087]), (43, .iload_n 1, 0, 0, 0, []), (44, .iaload, 0, 0, 0, []), (45, .iadd, 0, 0, 0, []), (46, .iconst 1, 0, 0, 0, []), (47, .isub, 0, 0, 0, []), (48, .iaload, 0, 0, 0, []), (49, .aload_n 0, 0, 0, 0, []), (50, .getfield 173, 12, 75, 0, [7093]), (53, .sipush 240, 0, 0, 0, []), (56, .iload_n 1, 0, 0, 0, []), (57, .imul, 0, 0, 0, []), (58, .aload_n 0, 0, 0, 0, []), (59, .getfield 152, 12, 68, 0, [7086]), (62, .iload_n 1, 0, 0, 0, []), (63, .iaload, 0, 0, 0, [])],
  [(64, .iadd, 0, 0, 0, []), (65, .iaload, 0, 0, 0, []), (66, .isub, 0, 0, 0, []), (67, .istore_n 2, 0, 0, 0, []), (68, .iload_n 2, 0, 0, 0, []), (69, .ifCond .ge 8, 77, 0, 0, []), (72, .iload_n 2, 0, 0, 0, []), (73, .ineg, 0, 0, 0, []), (74, .goto 4, 78, 0, 0, []), (77, .iload_n 2, 0, 0, 0, []), (78, .ireturn, 0, 0, 0, [])]]
def gP306 : List (List gE) := [
  [(0, .iconst 0, 0, 0, 0, []), (1, .istore 6, 0, 0, 0, []), (3, .iconst 0, 0, 0, 0, []), (4, .istore 7, 0, 0, 0, []), (6, .iload 7, 0, 0, 0, []), (8, .aload_n 0, 0, 0, 0, []), (9, .getfield 176, 12, 76, 0, [7094]), (12, .iload_n 1, 0, 0, 0, []), (13, .iaload, 0, 0, 0, []), (14, .if_icmp .ge 96, 110, 0, 0, []), (17, .iload 4, 0, 0, 0, []), (19, .aload_n 0, 0, 0, 0, []), (20, .getfield 179, 12, 77, 0, [7095]), (23, .bipush 8, 0, 0, 0, []), (25, .iload_n 1, 0, 0, 0, []), (26, .imul, 0, 0, 0, []), (27, .iload 7, 0, 0, 0, []), (29, .iadd, 0, 0, 0, []), (30, .iaload, 0, 0, 0, []), (31, .iload 5, 0, 0, 0, [])],
  [(33, .imul, 0, 0, 0, []), (34, .bipush 10, 0, 0, 0, []), (36, .idiv, 0, 0, 0, []), (37, .iadd, 0, 0, 0, []), (38, .istore 8, 0, 0, 0, []), (40, .iconst 0, 0, 0, 0, []), (41, .istore 9, 0, 0, 0, []), (43, .iconst 0, 0, 0, 0, []), (44, .istore 10, 0, 0, 0, []), (46, .iload 10, 0, 0, 0, []), (48, .aload_n 0, 0, 0, 0, []), (49, .getfield 176, 12, 76, 0, [7094]), (52, .iload_n 2, 0, 0, 0, []), (53, .iaload, 0, 0, 0, []), (54, .if_icmp .ge 42, 96, 0, 0, []), (57, .iload 8, 0, 0, 0, []), (59, .aload_n 0, 0, 0, 0, []), (60, .getfield 179, 12, 77, 0, [7095]), (63, .bipush 8, 0, 0, 0, [])],
  [(65, .iload_n 2, 0, 0, 0, []), (66, .imul, 0, 0, 0, []), (67, .iload 10, 0, 0, 0, []), (69, .iadd, 0, 0, 0, []), (70, .iaload, 0, 0, 0, []), (71, .isub, 0, 0, 0, []), (72, .istore 11, 0, 0, 0, []), (74, .iload 11, 0, 0, 0, []), (76, .iload_n 3, 0, 0, 0, []), (77, .if_icmp .gt 13, 90, 0, 0, []), (80, .iload 11, 0, 0, 0, []), (82, .iload_n 3, 0, 0, 0, []), (83, .ineg, 0, 0, 0, []), (84, .if_icmp .lt 6, 90, 0, 0, []), (87, .iconst 1, 0, 0, 0, []), (88, .istore 9, 0, 0, 0, []), (90, .iinc 10 1, 0, 0, 0, []), (93, .goto (-47), 46, 0, 0, [])],
  [(96, .iload 9, 0, 0, 0, []), (98, .ifCond .ne 6, 104, 0, 0, []), (101, .iinc 6 1, 0, 0, 0, []), (104, .iinc 7 1, 0, 0, 0, []), (107, .goto (-101), 6, 0, 0, []), (110, .iload 6, 0, 0, 0, []), (112, .ireturn, 0, 0, 0, [])]]
def gP307 : List (List gE) := [
  [(0, .aload_n 0, 0, 0, 0, []), (1, .iconst (-1), 0, 0, 0, []), (2, .putfield 539, 12, 100, 0, [7118]), (5, .iconst 0, 0, 0, 0, []), (6, .istore 4, 0, 0, 0, []), (8, .iload 4, 0, 0, 0, []), (10, .bipush 24, 0, 0, 0, []), (12, .if_icmp .gt 121, 133, 0, 0, []), (15, .iconst (-1), 0, 0, 0, []), (16, .istore 5, 0, 0, 0, []), (18, .iload 5, 0, 0, 0, []), (20, .iconst 1, 0, 0, 0, []), (21, .if_icmp .gt 106, 127, 0, 0, []), (24, .iconst 0, 0, 0, 0, []), (25, .istore 6, 0, 0, 0, []), (27, .iload 6, 0, 0, 0, []), (29, .iconst 3, 0, 0, 0, []), (30, .if_icmp .ge 91, 121, 0, 0, [])],
  [(33, .iload 6, 0, 0, 0, []), (35, .ifCond .ne 8, 43, 0, 0, []), (38, .bipush 10, 0, 0, 0, []), (40, .goto 16, 56, 0, 0, []), (43, .iload 6, 0, 0, 0, []), (45, .iconst 1, 0, 0, 0, []), (46, .if_icmp .ne 8, 54, 0, 0, []), (49, .bipush 9, 0, 0, 0, []), (51, .goto 5, 56, 0, 0, []), (54, .bipush 11, 0, 0, 0, []), (56, .istore 7, 0, 0, 0, []), (58, .aload_n 0, 0, 0, 0, []), (59, .iload_n 1, 0, 0, 0, []), (60, .iload_n 2, 0, 0, 0, []), (61, .iload_n 3, 0, 0, 0, []), (62, .iload 5, 0, 0, 0, [])],
  [(64, .iload 4, 0, 0, 0, []), (66, .imul, 0, 0, 0, []), (67, .iload 7, 0, 0, 0, []), (69, .invokevirtual 542, 306, 5, 12, [10008, 10010, 195, 1015, 10011]), (72, .istore 8, 0, 0, 0, []), (74, .aload_n 0, 0, 0, 0, []), (75, .getfield 539, 12, 100, 0, [7118]), (78, .iconst (-1), 0, 0, 0, []), (79, .if_icmp .eq 15, 94, 0, 0, []), (82, .iload 8, 0, 0, 0, []), (84, .aload_n 0, 0, 0, 0, []), (85, .getfield 539, 12, 100, 0, [7118]), (88, .if_icmp .lt 6, 94, 0, 0, []), (91, .goto 24, 115, 0, 0, []), (94, .aload_n 0, 0, 0, 0, []), (95, .iload 8, 0, 0, 0, [])],
  [(97, .putfield 539, 12, 100, 0, [7118]), (100, .aload_n 0, 0, 0, 0, []), (101, .iload 5, 0, 0, 0, []), (103, .iload 4, 0, 0, 0, []), (105, .imul, 0, 0, 0, []), (106, .putfield 545, 12, 101, 0, [7119]), (109, .aload_n 0, 0, 0, 0, []), (110, .iload 7, 0, 0, 0, []), (112, .putfield 548, 12, 102, 0, [7120]), (115, .iinc 6 1, 0, 0, 0, []), (118, .goto (-91), 27, 0, 0, []), (121, .iinc 5 2, 0, 0, 0, []), (124, .goto (-106), 18, 0, 0, []), (127, .iinc 4 1, 0, 0, 0, [])],
  [(130, .goto (-122), 8, 0, 0, []), (133, .return_, 0, 0, 0, [])]]
def gP308 : List (List gE) := [
  [(0, .aload_n 0, 0, 0, 0, []), (1, .iload_n 1, 0, 0, 0, []), (2, .invokevirtual 427, 250, 1, 12, [9029, 9031, 164, 1015, 9032]), (5, .ifCond .eq 17, 22, 0, 0, []), (8, .aload_n 0, 0, 0, 0, []), (9, .getfield 146, 12, 66, 0, [7084]), (12, .iload_n 1, 0, 0, 0, []), (13, .iaload, 0, 0, 0, []), (14, .iconst 2, 0, 0, 0, []), (15, .if_icmp .ne 7, 22, 0, 0, []), (18, .iconst 1, 0, 0, 0, []), (19, .goto 4, 23, 0, 0, []), (22, .iconst 0, 0, 0, 0, []), (23, .ireturn, 0, 0, 0, [])]]
def gP309 : List (List gE) := [
  [(0, .aload_n 0, 0, 0, 0, []), (1, .iload_n 1, 0, 0, 0, []), (2, .invokevirtual 551, 308, 1, 12, [10000, 10002, 193, 1015, 10003]), (5, .ifCond .eq 36, 41, 0, 0, []), (8, .aload_n 0, 0, 0, 0, []), (9, .iload_n 2, 0, 0, 0, []), (10, .invokevirtual 551, 308, 1, 12, [10000, 10002, 193, 1015, 10003]), (13, .ifCond .eq 28, 41, 0, 0, []), (16, .iload_n 1, 0, 0, 0, []), (17, .iload_n 2, 0, 0, 0, []), (18, .if_icmp .eq 23, 41, 0, 0, []), (21, .iload_n 3, 0, 0, 0, []), (22, .iconst 0, 0, 0, 0, []), (23, .bipush 9, 0, 0, 0, []), (25, .invokestatic 419, 251, 3, 0, [9018, 9019, 1015, 9020]), (28, .ifCond .eq 13, 41, 0, 0, []), (31, .iload 4, 0, 0, 0, [])],
  [(33, .iconst 0, 0, 0, 0, []), (34, .iconst 2, 0, 0, 0, []), (35, .invokestatic 419, 251, 3, 0, [9018, 9019, 1015, 9020]), (38, .ifCond .ne 16, 54, 0, 0, []), (41, .iload 4, 0, 0, 0, []), (43, .iconst 1, 0, 0, 0, []), (44, .if_icmp .ne 8, 52, 0, 0, []), (47, .bipush (-100), 0, 0, 0, []), (49, .goto 4, 53, 0, 0, []), (52, .iconst (-1), 0, 0, 0, []), (53, .ireturn, 0, 0, 0, []), (54, .aload_n 0, 0, 0, 0, []), (55, .iload_n 1, 0, 0, 0, []), (56, .iload_n 2, 0, 0, 0, []), (57, .iload_n 3, 0, 0, 0, []), (58, .invokevirtual 554, 307, 3, 12, [10004, 10006, 194, 1015, 10007]), (61, .iload 4, 0, 0, 0, []), (63, .ifCond .ne 10, 73, 0, 0, [])],
  [(66, .aload_n 0, 0, 0, 0, []), (67, .getfield 539, 12, 100, 0, [7118]), (70, .goto 20, 90, 0, 0, []), (73, .iload 4, 0, 0, 0, []), (75, .iconst 1, 0, 0, 0, []), (76, .if_icmp .ne 10, 86, 0, 0, []), (79, .aload_n 0, 0, 0, 0, []), (80, .getfield 545, 12, 101, 0, [7119]), (83, .goto 7, 90, 0, 0, []), (86, .aload_n 0, 0, 0, 0, []), (87, .getfield 548, 12, 102, 0, [7120]), (90, .ireturn, 0, 0, 0, [])]]
def gP310 : List (List gE) := [
  [(0, .aload_n 0, 0, 0, 0, []), (1, .iload_n 1, 0, 0, 0, []), (2, .invokevirtual 458, 270, 1, 12, [9103, 9105, 172, 1015, 9106]), (5, .aload_n 0, 0, 0, 0, []), (6, .iconst 0, 0, 0, 0, []), (7, .putfield 558, 12, 103, 0, [7121]), (10, .iconst 0, 0, 0, 0, []), (11, .istore 4, 0, 0, 0, []), (13, .iload 4, 0, 0, 0, []), (15, .bipush 60, 0, 0, 0, []), (17, .if_icmp .ge 17, 34, 0, 0, []), (20, .aload_n 0, 0, 0, 0, []), (21, .getfield 230, 12, 98, 0, [7116]), (24, .iload 4, 0, 0, 0, []), (26, .iconst 0, 0, 0, 0, []), (27, .bastore, 0, 0, 0, []), (28, .iinc 4 1, 0, 0, 0, []), (31, .goto (-18), 13, 0, 0, [])],
  [(34, .iconst 0, 0, 0, 0, []), (35, .istore 4, 0, 0, 0, []), (37, .iload 4, 0, 0, 0, []), (39, .aload_n 0, 0, 0, 0, []), (40, .getfield 446, 12, 82, 0, [7100]), (43, .if_icmp .ge 152, 195, 0, 0, []), (46, .aload_n 0, 0, 0, 0, []), (47, .getfield 194, 12, 83, 0, [7101]), (50, .iload 4, 0, 0, 0, []), (52, .iaload, 0, 0, 0, []), (53, .istore 5, 0, 0, 0, []), (55, .aload_n 0, 0, 0, 0, []), (56, .getfield 55, 12, 24, 0, [7042]), (59, .iload 5, 0, 0, 0, []), (61, .iaload, 0, 0, 0, []), (62, .ifCond .ne 127, 189, 0, 0, [])],
  [(65, .aload_n 0, 0, 0, 0, []), (66, .aload_n 0, 0, 0, 0, []), (67, .getfield 61, 12, 26, 0, [7044]), (70, .iload 5, 0, 0, 0, []), (72, .iaload, 0, 0, 0, []), (73, .invokevirtual 427, 250, 1, 12, [9029, 9031, 164, 1015, 9032]), (76, .ifCond .eq 113, 189, 0, 0, []), (79, .aload_n 0, 0, 0, 0, []), (80, .aload_n 0, 0, 0, 0, []), (81, .getfield 61, 12, 26, 0, [7044]), (84, .iload 5, 0, 0, 0, []), (86, .iaload, 0, 0, 0, []), (87, .invokevirtual 561, 264, 1, 12, [10024, 10026, 198, 1015, 10027]), (90, .iload_n 2, 0, 0, 0, []), (91, .if_icmp .eq 6, 97, 0, 0, []), (94, .goto 95, 189, 0, 0, [])],
  [(97, .aload_n 0, 0, 0, 0, []), (98, .dup, 0, 0, 0, []), (99, .getfield 558, 12, 103, 0, [7121]), (102, .iconst 1, 0, 0, 0, []), (103, .iadd, 0, 0, 0, []), (104, .putfield 558, 12, 103, 0, [7121]), (107, .iconst 0, 0, 0, 0, []), (108, .istore 6, 0, 0, 0, []), (110, .iload 6, 0, 0, 0, []), (112, .iconst 4, 0, 0, 0, []), (113, .aload_n 0, 0, 0, 0, []), (114, .getfield 137, 12, 61, 0, [7079]), (117, .aload_n 0, 0, 0, 0, []), (118, .getfield 40, 12, 19, 0, [7037]), (121, .iload_n 1, 0, 0, 0, []), (122, .iaload, 0, 0, 0, []), (123, .iaload, 0, 0, 0, []), (124, .imul, 0, 0, 0, []), (125, .if_icmp .ge 64, 189, 0, 0, [])],
  [(128, .aload_n 0, 0, 0, 0, []), (129, .iload 4, 0, 0, 0, []), (131, .iload 6, 0, 0, 0, []), (133, .invokevirtual 467, 273, 2, 12, [9131, 9133, 178, 1015, 9134]), (136, .ifCond .eq 47, 183, 0, 0, []), (139, .aload_n 0, 0, 0, 0, []), (140, .aload_n 0, 0, 0, 0, []), (141, .getfield 61, 12, 26, 0, [7044]), (144, .iload 5, 0, 0, 0, []), (146, .iaload, 0, 0, 0, []), (147, .aload_n 0, 0, 0, 0, []), (148, .getfield 455, 12, 88, 0, [7106]), (151, .invokevirtual 443, 266, 2, 12, [9083, 9085, 168, 1015, 9086]), (154, .aload_n 0, 0, 0, 0, []), (155, .getfield 76, 12, 31, 0, [7049]), (158, .bipush 6, 0, 0, 0, [])],
  [(160, .iload 5, 0, 0, 0, []), (162, .imul, 0, 0, 0, []), (163, .iconst 2, 0, 0, 0, []), (164, .iadd, 0, 0, 0, []), (165, .iaload, 0, 0, 0, []), (166, .imul, 0, 0, 0, []), (167, .bipush 100, 0, 0, 0, []), (169, .idiv, 0, 0, 0, []), (170, .ifCond .eq 13, 183, 0, 0, []), (173, .aload_n 0, 0, 0, 0, []), (174, .getfield 230, 12, 98, 0, [7116]), (177, .iload 6, 0, 0, 0, []), (179, .iconst 4, 0, 0, 0, []), (180, .idiv, 0, 0, 0, []), (181, .iconst 1, 0, 0, 0, []), (182, .bastore, 0, 0, 0, []), (183, .iinc 6 1, 0, 0, 0, []), (186, .goto (-76), 110, 0, 0, []), (189, .iinc 4 1, 0, 0, 0, [])],
  [(192, .goto (-155), 37, 0, 0, []), (195, .iconst 0, 0, 0, 0, []), (196, .istore 4, 0, 0, 0, []), (198, .iconst 0, 0, 0, 0, []), (199, .istore 5, 0, 0, 0, []), (201, .iload 5, 0, 0, 0, []), (203, .aload_n 0, 0, 0, 0, []), (204, .getfield 137, 12, 61, 0, [7079]), (207, .iload_n 3, 0, 0, 0, []), (208, .iaload, 0, 0, 0, []), (209, .if_icmp .ge 43, 252, 0, 0, []), (212, .aload_n 0, 0, 0, 0, []), (213, .iload_n 3, 0, 0, 0, []), (214, .iload 5, 0, 0, 0, []), (216, .aload_n 0, 0, 0, 0, []), (217, .getfield 40, 12, 19, 0, [7037]), (220, .iload_n 1, 0, 0, 0, []), (221, .iaload, 0, 0, 0, []), (222, .invokevirtual 410, 248, 3, 12, [9010, 9012, 162, 1015, 9013])],
  [(225, .istore 6, 0, 0, 0, []), (227, .iload 6, 0, 0, 0, []), (229, .iconst (-1), 0, 0, 0, []), (230, .if_icmp .eq 16, 246, 0, 0, []), (233, .aload_n 0, 0, 0, 0, []), (234, .getfield 230, 12, 98, 0, [7116]), (237, .iload 6, 0, 0, 0, []), (239, .baload, 0, 0, 0, []), (240, .ifCond .eq 6, 246, 0, 0, []), (243, .iinc 4 1, 0, 0, 0, []), (246, .iinc 5 1, 0, 0, 0, []), (249, .goto (-48), 201, 0, 0, []), (252, .iload 4, 0, 0, 0, []), (254, .ireturn, 0, 0, 0, [])]]
def gP311 : List (List gE) := [
  [(0, .aload_n 0, 0, 0, 0, []), (1, .iload_n 1, 0, 0, 0, []), (2, .iload_n 3, 0, 0, 0, []), (3, .invokevirtual 500, 284, 2, 12, [9115, 9117, 174, 1015, 9118]), (6, .ifCond .eq 25, 31, 0, 0, []), (9, .aload_n 0, 0, 0, 0, []), (10, .iload_n 2, 0, 0, 0, []), (11, .invokevirtual 427, 250, 1, 12, [9029, 9031, 164, 1015, 9032]), (14, .ifCond .eq 17, 31, 0, 0, []), (17, .aload_n 0, 0, 0, 0, []), (18, .getfield 146, 12, 66, 0, [7084]), (21, .iload_n 2, 0, 0, 0, []), (22, .iaload, 0, 0, 0, []), (23, .iconst 3, 0, 0, 0, []), (24, .if_icmp .ne 7, 31, 0, 0, []), (27, .iconst 1, 0, 0, 0, []), (28, .goto 4, 32, 0, 0, []), (31, .iconst 0, 0, 0, 0, [])],
  [(32, .ireturn, 0, 0, 0, [])]]
def gP312 : List (List gE) := [
  [(0, .aload_n 0, 0, 0, 0, []), (1, .iload_n 1, 0, 0, 0, []), (2, .iload_n 2, 0, 0, 0, []), (3, .iload_n 3, 0, 0, 0, []), (4, .invokevirtual 564, 311, 3, 12, [10016, 10018, 196, 1015, 10019]), (7, .ifCond .eq 13, 20, 0, 0, []), (10, .aload_n 0, 0, 0, 0, []), (11, .iload_n 1, 0, 0, 0, []), (12, .iload_n 2, 0, 0, 0, []), (13, .iload_n 3, 0, 0, 0, []), (14, .invokevirtual 567, 310, 3, 12, [10020, 10022, 197, 1015, 10023]), (17, .goto 4, 21, 0, 0, []), (20, .iconst (-1), 0, 0, 0, []), (21, .ireturn, 0, 0, 0, [])]]
def gP313 : List (List gE) := [
  [(0, .aload_n 0, 0, 0, 0, []), (1, .iload_n 1, 0, 0, 0, []), (2, .iload_n 2, 0, 0, 0, []), (3, .iload_n 3, 0, 0, 0, []), (4, .invokevirtual 564, 311, 3, 12, [10016, 10018, 196, 1015, 10019]), (7, .ifCond .eq 14, 21, 0, 0, []), (10, .iload 4, 0, 0, 0, []), (12, .iconst 0, 0, 0, 0, []), (13, .bipush 9, 0, 0, 0, []), (15, .invokestatic 419, 251, 3, 0, [9018, 9019, 1015, 9020]), (18, .ifCond .ne 5, 23, 0, 0, []), (21, .iconst (-1), 0, 0, 0, []), (22, .ireturn, 0, 0, 0, []), (23, .aload_n 0, 0, 0, 0, []), (24, .iload_n 1, 0, 0, 0, []), (25, .iload_n 2, 0, 0, 0, []), (26, .iload_n 3, 0, 0, 0, []), (27, .invokevirtual 567, 310, 3, 12, [10020, 10022, 197, 1015, 10023]), (30, .istore 5, 0, 0, 0, [])],
  [(32, .aload_n 0, 0, 0, 0, []), (33, .getfield 131, 12, 56, 0, [7074]), (36, .iconst 0, 0, 0, 0, []), (37, .iload 5, 0, 0, 0, []), (39, .bipush 23, 0, 0, 0, []), (41, .iadd, 0, 0, 0, []), (42, .bipush 24, 0, 0, 0, []), (44, .idiv, 0, 0, 0, []), (45, .iastore, 0, 0, 0, []), (46, .aload_n 0, 0, 0, 0, []), (47, .getfield 131, 12, 56, 0, [7074]), (50, .iconst 1, 0, 0, 0, []), (51, .aload_n 0, 0, 0, 0, []), (52, .getfield 152, 12, 68, 0, [7086]), (55, .iload_n 2, 0, 0, 0, []), (56, .iaload, 0, 0, 0, []), (57, .iastore, 0, 0, 0, []), (58, .aload_n 0, 0, 0, 0, []), (59, .getfield 131, 12, 56, 0, [7074]), (62, .iconst 2, 0, 0, 0, []), (63, .iload 4, 0, 0, 0, [])],
  [(65, .iastore, 0, 0, 0, []), (66, .aload_n 0, 0, 0, 0, []), (67, .getfield 131, 12, 56, 0, [7074]), (70, .iconst 3, 0, 0, 0, []), (71, .iload 5, 0, 0, 0, []), (73, .iastore, 0, 0, 0, []), (74, .aload_n 0, 0, 0, 0, []), (75, .getfield 131, 12, 56, 0, [7074]), (78, .iconst 4, 0, 0, 0, []), (79, .aload_n 0, 0, 0, 0, []), (80, .getfield 558, 12, 103, 0, [7121]), (83, .iastore, 0, 0, 0, []), (84, .bipush 12, 0, 0, 0, []), (86, .aload_n 0, 0, 0, 0, []), (87, .getfield 317, 12, 34, 0, [7052]), (90, .imul, 0, 0, 0, []), (91, .istore 6, 0, 0, 0, []), (93, .iload 6, 0, 0, 0, []), (95, .bipush 12, 0, 0, 0, [])],
  [(97, .aload_n 0, 0, 0, 0, []), (98, .getfield 317, 12, 34, 0, [7052]), (101, .imul, 0, 0, 0, []), (102, .aload_n 0, 0, 0, 0, []), (103, .getfield 79, 12, 36, 0, [7054]), (106, .aload_n 0, 0, 0, 0, []), (107, .getfield 317, 12, 34, 0, [7052]), (110, .iaload, 0, 0, 0, []), (111, .iadd, 0, 0, 0, []), (112, .if_icmp .ge 63, 175, 0, 0, []), (115, .aload_n 0, 0, 0, 0, []), (116, .getfield 82, 12, 37, 0, [7055]), (119, .iload 6, 0, 0, 0, []), (121, .iaload, 0, 0, 0, []), (122, .ifCond .ne 47, 169, 0, 0, []), (125, .aload_n 0, 0, 0, 0, []), (126, .iload 6, 0, 0, 0, [])],
  [(128, .invokevirtual 570, 239, 1, 12, [10032, 10034, 199, 1015, 10035]), (131, .ifCond .ne 6, 137, 0, 0, []), (134, .goto 35, 169, 0, 0, []), (137, .aload_n 0, 0, 0, 0, []), (138, .getfield 397, 12, 59, 0, [7077]), (141, .ifCond .ge 7, 148, 0, 0, []), (144, .iconst 0, 0, 0, 0, []), (145, .goto 23, 168, 0, 0, []), (148, .aload_n 0, 0, 0, 0, []), (149, .getfield 397, 12, 59, 0, [7077]), (152, .ldc_w 573, 0, 0, 999999, [10040]), (155, .if_icmp .le 9, 164, 0, 0, []), (158, .ldc_w 573, 0, 0, 999999, [10040])],
  [(161, .goto 7, 168, 0, 0, []), (164, .aload_n 0, 0, 0, 0, []), (165, .getfield 397, 12, 59, 0, [7077]), (168, .ireturn, 0, 0, 0, []), (169, .iinc 6 1, 0, 0, 0, []), (172, .goto (-79), 93, 0, 0, []), (175, .iconst 0, 0, 0, 0, []), (176, .ireturn, 0, 0, 0, [])]]
def gP314 : List (List gE) := [
  [(0, .iload_n 1, 0, 0, 0, []), (1, .tableswitch 74 0 5 #[39, 44, 49, 54, 59, 69], 0, 0, 0, [])],
  [(40, .aload_n 0, 0, 0, 0, []), (41, .getfield 240, 12, 60, 0, [7078]), (44, .ireturn, 0, 0, 0, []), (45, .aload_n 0, 0, 0, 0, []), (46, .getfield 413, 12, 64, 0, [7082]), (49, .ireturn, 0, 0, 0, []), (50, .aload_n 0, 0, 0, 0, []), (51, .getfield 305, 12, 18, 0, [7036]), (54, .ireturn, 0, 0, 0, []), (55, .aload_n 0, 0, 0, 0, []), (56, .getfield 416, 12, 65, 0, [7083]), (59, .ireturn, 0, 0, 0, []), (60, .aload_n 0, 0, 0, 0, []), (61, .getfield 79, 12, 36, 0, [7054])],
  [(64, .aload_n 0, 0, 0, 0, []), (65, .getfield 317, 12, 34, 0, [7052]), (68, .iaload, 0, 0, 0, []), (69, .ireturn, 0, 0, 0, []), (70, .aload_n 0, 0, 0, 0, []), (71, .getfield 243, 12, 2, 0, [7020]), (74, .ireturn, 0, 0, 0, []), (75, .iconst (-1), 0, 0, 0, []), (76, .ireturn, 0, 0, 0, [])]]
def gP315 : List (List gE) := [
  [(0, .iload_n 0, 0, 0, 0, []), (1, .iload_n 0, 0, 0, 0, []), (2, .iconst 1, 0, 0, 0, []), (3, .iushr, 0, 0, 0, []), (4, .ldc_w 265, 0, 0, 1431655765, [6142]), (7, .iand, 0, 0, 0, []), (8, .isub, 0, 0, 0, []), (9, .istore_n 0, 0, 0, 0, []), (10, .iload_n 0, 0, 0, 0, []), (11, .ldc_w 266, 0, 0, 858993459, [6143]), (14, .iand, 0, 0, 0, []), (15, .iload_n 0, 0, 0, 0, []), (16, .iconst 2, 0, 0, 0, []), (17, .iushr, 0, 0, 0, []), (18, .ldc_w 266, 0, 0, 858993459, [6143]), (21, .iand, 0, 0, 0, []), (22, .iadd, 0, 0, 0, []), (23, .istore_n 0, 0, 0, 0, []), (24, .iload_n 0, 0, 0, 0, []), (25, .iload_n 0, 0, 0, 0, []), (26, .iconst 4, 0, 0, 0, []), (27, .iushr, 0, 0, 0, []), (28, .iadd, 0, 0, 0, []), (29, .ldc_w 267, 0, 0, 252645135, [6144])],
  [(32, .iand, 0, 0, 0, []), (33, .istore_n 0, 0, 0, 0, []), (34, .iload_n 0, 0, 0, 0, []), (35, .iload_n 0, 0, 0, 0, []), (36, .bipush 8, 0, 0, 0, []), (38, .iushr, 0, 0, 0, []), (39, .iadd, 0, 0, 0, []), (40, .istore_n 0, 0, 0, 0, []), (41, .iload_n 0, 0, 0, 0, []), (42, .iload_n 0, 0, 0, 0, []), (43, .bipush 16, 0, 0, 0, []), (45, .iushr, 0, 0, 0, []), (46, .iadd, 0, 0, 0, []), (47, .istore_n 0, 0, 0, 0, []), (48, .iload_n 0, 0, 0, 0, []), (49, .bipush 63, 0, 0, 0, []), (51, .iand, 0, 0, 0, []), (52, .ireturn, 0, 0, 0, [])]]
def gP316 : List (List gE) := [
  [(0, .iload_n 0, 0, 0, 0, []), (1, .ifCond .ge 8, 9, 0, 0, []), (4, .iload_n 0, 0, 0, 0, []), (5, .ineg, 0, 0, 0, []), (6, .goto 4, 10, 0, 0, []), (9, .iload_n 0, 0, 0, 0, []), (10, .ireturn, 0, 0, 0, [])]]
def gP317 : List (List gE) := [
  [(0, .iload_n 0, 0, 0, 0, []), (1, .iload_n 1, 0, 0, 0, []), (2, .if_icmp .lt 7, 9, 0, 0, []), (5, .iload_n 0, 0, 0, 0, []), (6, .goto 4, 10, 0, 0, []), (9, .iload_n 1, 0, 0, 0, []), (10, .ireturn, 0, 0, 0, [])]]
def gP318 : List (List gE) := [
  [(0, .lload_n 0, 0, 0, 0, []), (1, .lload_n 2, 0, 0, 0, []), (2, .lcmp, 0, 0, 0, []), (3, .ifCond .lt 7, 10, 0, 0, []), (6, .lload_n 0, 0, 0, 0, []), (7, .goto 4, 11, 0, 0, []), (10, .lload_n 2, 0, 0, 0, []), (11, .lreturn, 0, 0, 0, [])]]
def gP319 : List (List gE) := [
  [(0, .iload_n 0, 0, 0, 0, []), (1, .iload_n 1, 0, 0, 0, []), (2, .if_icmp .gt 7, 9, 0, 0, []), (5, .iload_n 0, 0, 0, 0, []), (6, .goto 4, 10, 0, 0, []), (9, .iload_n 1, 0, 0, 0, []), (10, .ireturn, 0, 0, 0, [])]]
def gP320 : List (List gE) := [
  [(0, .lload_n 0, 0, 0, 0, []), (1, .lload_n 2, 0, 0, 0, []), (2, .lcmp, 0, 0, 0, []), (3, .ifCond .gt 7, 10, 0, 0, []), (6, .lload_n 0, 0, 0, 0, []), (7, .goto 4, 11, 0, 0, []), (10, .lload_n 2, 0, 0, 0, []), (11, .lreturn, 0, 0, 0, [])]]
def gP321 : List (List gE) := [
  [(0, .aload_n 0, 0, 0, 0, []), (1, .getfield 9, 13, 0, 0, [10045]), (4, .arraylength, 0, 0, 0, []), (5, .aload_n 0, 0, 0, 0, []), (6, .invokevirtual 335, 323, 0, 13, [1158, 1159, 1160, 1007, 1161]), (9, .ishr, 0, 0, 0, []), (10, .ireturn, 0, 0, 0, [])]]
def gP322 : List (List gE) := [
  [(0, .aload_n 0, 0, 0, 0, []), (1, .invokevirtual 492, 324, 0, 13, [1168, 1169, 1170, 1007, 1171]), (4, .ifCond .eq 12, 16, 0, 0, []), (7, .aload_n 0, 0, 0, 0, []), (8, .getfield 9, 13, 0, 0, [10045]), (11, .iload_n 1, 0, 0, 0, []), (12, .invokestatic 495, 326, 2, 0, [1172, 1173, 1008, 1174]), (15, .ireturn, 0, 0, 0, []), (16, .aload_n 0, 0, 0, 0, []), (17, .getfield 9, 13, 0, 0, [10045]), (20, .iload_n 1, 0, 0, 0, []), (21, .invokestatic 498, 329, 2, 0, [1183, 1184, 1010, 1185]), (24, .ireturn, 0, 0, 0, [])]]
def gP323 : List (List gE) := [
  [(0, .getstatic 38, 0, 0, 0, [1162]), (3, .ifCond .eq 10, 13, 0, 0, []), (6, .aload_n 0, 0, 0, 0, []), (7, .getfield 15, 13, 1, 0, [10046]), (10, .goto 4, 14, 0, 0, []), (13, .iconst 1, 0, 0, 0, []), (14, .ireturn, 0, 0, 0, [])]]
def gP324 : List (List gE) := [
  [(0, .getstatic 38, 0, 0, 0, [1162]), (3, .ifCond .eq 14, 17, 0, 0, []), (6, .aload_n 0, 0, 0, 0, []), (7, .getfield 15, 13, 1, 0, [10046]), (10, .ifCond .ne 7, 17, 0, 0, []), (13, .iconst 1, 0, 0, 0, []), (14, .goto 4, 18, 0, 0, []), (17, .iconst 0, 0, 0, 0, []), (18, .ireturn, 0, 0, 0, [])]]
def gP325 : List (List gE) := [
  [(0, .iload_n 0, 0, 0, 0, []), (1, .iload_n 1, 0, 0, 0, []), (2, .getstatic 1053, 1, 0, 0, [1178]), (5, .invokestatic 1059, 332, 3, 0, [1180, 1181, 1009, 1182]), (8, .pop, 0, 0, 0, []), (9, .return_, 0, 0, 0, [])]]
def gP326 : List (List gE) := [
  [(0, .iload_n 1, 0, 0, 0, []), (1, .aload_n 0, 0, 0, 0, []), (2, .arraylength, 0, 0, 0, []), (3, .invokestatic 9, 325, 2, 0, [1175, 1176, 1007, 1177]), (6, .aload_n 0, 0, 0, 0, []), (7, .iload_n 1, 0, 0, 0, []), (8, .baload, 0, 0, 0, []), (9, .sipush 255, 0, 0, 0, []), (12, .iand, 0, 0, 0, []), (13, .i2c, 0, 0, 0, []), (14, .ireturn, 0, 0, 0, [])]]
def gP327 : List (List gE) := [
  [(3, .ifCond .ne 25, 28, 0, 0, []), (6, .iload_n 1, 0, 0, 0, []), (7, .ifCond .lt 11, 18, 0, 0, []), (10, .iload_n 1, 0, 0, 0, []), (11, .aload_n 0, 0, 0, 0, []), (12, .invokestatic 48, 328, 1, 0, [1189, 1190, 1010, 1191]), (15, .if_icmp .lt 13, 28, 0, 0, []), (21, .dup, 0, 0, 0, []), (27, .athrow, 0, 0, 0, []), (28, .iload_n 1, 0, 0, 0, []), (29, .iconst 1, 0, 0, 0, []), (30, .ishl, 0, 0, 0, []), (31, .istore_n 1, 0, 0, 0, [])],
  [(32, .aload_n 0, 0, 0, 0, []), (33, .iload_n 1, 0, 0, 0, []), (34, .iinc 1 1, 0, 0, 0, []), (37, .baload, 0, 0, 0, []), (38, .sipush 255, 0, 0, 0, []), (41, .iand, 0, 0, 0, []), (45, .ishl, 0, 0, 0, []), (46, .aload_n 0, 0, 0, 0, []), (47, .iload_n 1, 0, 0, 0, []), (48, .baload, 0, 0, 0, []), (49, .sipush 255, 0, 0, 0, []), (52, .iand, 0, 0, 0, []), (56, .ishl, 0, 0, 0, []), (57, .ior, 0, 0, 0, []), (58, .i2c, 0, 0, 0, []), (59, .ireturn, 0, 0, 0, [])]]
def gP328 : List (List gE) := [
  [(0, .aload_n 0, 0, 0, 0, []), (1, .arraylength, 0, 0, 0, []), (2, .iconst 1, 0, 0, 0, []), (3, .ishr, 0, 0, 0, []), (4, .ireturn, 0, 0, 0, [])]]
def gP329 : List (List gE) := [
  [(0, .iload_n 1, 0, 0, 0, []), (1, .aload_n 0, 0, 0, 0, []), (2, .invokestatic 67, 330, 2, 0, [1186, 1187, 1010, 1188]), (5, .aload_n 0, 0, 0, 0, []), (6, .iload_n 1, 0, 0, 0, []), (7, .invokestatic 71, 327, 2, 0, [1193, 1194, 1010, 1195]), (10, .ireturn, 0, 0, 0, [])]]
def gP330 : List (List gE) := [
  [(0, .iload_n 0, 0, 0, 0, []), (1, .aload_n 1, 0, 0, 0, []), (2, .invokestatic 48, 328, 1, 0, [1189, 1190, 1010, 1191]), (5, .invokestatic 414, 325, 2, 0, [1192, 1176, 1007, 1177]), (8, .return_, 0, 0, 0, [])]]
def gP331 : List (List gE) := [
  [(0, .iconst 0, 0, 0, 0, []), (1, .istore_n 2, 0, 0, 0, []), (2, .aload_n 0, 0, 0, 0, []), (3, .arraylength, 0, 0, 0, []), (4, .istore_n 3, 0, 0, 0, []), (5, .iload_n 2, 0, 0, 0, []), (6, .iload_n 3, 0, 0, 0, []), (7, .if_icmp .ge 13, 20, 0, 0, []), (10, .aload_n 0, 0, 0, 0, []), (11, .iload_n 2, 0, 0, 0, []), (12, .iload_n 1, 0, 0, 0, []), (13, .iastore, 0, 0, 0, []), (14, .iinc 2 1, 0, 0, 0, []), (17, .goto (-12), 5, 0, 0, []), (20, .return_, 0, 0, 0, [])]]
def gP332 : List (List gE) := [
  [(0, .iload_n 0, 0, 0, 0, []), (1, .ifCond .lt 8, 9, 0, 0, []), (4, .iload_n 0, 0, 0, 0, []), (5, .iload_n 1, 0, 0, 0, []), (6, .if_icmp .lt 10, 16, 0, 0, []), (9, .aload_n 2, 0, 0, 0, []), (10, .iload_n 0, 0, 0, 0, []), (11, .iload_n 1, 0, 0, 0, []), (15, .athrow, 0, 0, 0, []), (16, .iload_n 0, 0, 0, 0, []), (17, .ireturn, 0, 0, 0, [])]]
def gPg0 : List (List (List gE)) := [gP0, gP1, gP2, gP3, gP4, gP5, gP6, gP7, gP8, gP9, gP10, gP11, gP12, gP13, gP14, gP15]
def gMg0 : List gMt := [
  (⟨"MixStageLaw", "law", "([I)Z"⟩, 4, some .boolean, 99, 0),
  (⟨"MixStage$Bank", "<init>", "()V"⟩, 1, none, 0, 1106),
  (⟨"MixStage$Bank", "get", "(I)LMixStage$Sound;"⟩, 2, some (FieldType.object "MixStage$Sound"), 0, 5015),
  (⟨"MixStage$Bank", "getKind", "(II)LMixStage$Sound;"⟩, 4, some (FieldType.object "MixStage$Sound"), 0, 5023),
  (⟨"MixStage$Bank", "add", "(IIIII)I"⟩, 7, some FieldType.int, 0, 4169),
  (⟨"MixStage$Bank", "nextStamp", "()I"⟩, 1, some FieldType.int, 0, 5007),
  (⟨"MixStage$Bank", "setMark", "(II)V"⟩, 3, none, 0, 5059),
  (⟨"MixStage$Bank", "setHiss", "(II)V"⟩, 3, none, 0, 5068),
  (⟨"MixStage$Bank", "frameNow", "(II)I"⟩, 3, some FieldType.int, 0, 5148),
  (⟨"MixStage$Bank", "ownLength", "(LMixStage$Sound;)I"⟩, 3, some FieldType.int, 0, 5143),
  (⟨"MixStage$Bank", "leansAtOnce", "(LMixStage$Sound;)I"⟩, 3, some FieldType.int, 0, 5098),
  (⟨"MixStage$Bank", "joined", "([II)I"⟩, 4, some FieldType.int, 0, 5101),
  (⟨"MixStage$Bank", "findLeaning", "()V"⟩, 6, none, 0, 5088),
  (⟨"MixStage$Bank", "leansOf", "(I)I"⟩, 2, some FieldType.int, 0, 6025),
  (⟨"MixStage$Bank", "mayLay", "(LMixStage$Sheet;I)Z"⟩, 5, some FieldType.boolean, 0, 5084),
  (⟨"MixStage$Bank", "isBehind", "(LMixStage$Sound;LMixStage$Sheet;I)Z"⟩, 6, some FieldType.boolean, 0, 5230)]
def gPg1 : List (List (List gE)) := [gP16, gP17, gP18, gP19, gP20, gP21, gP22, gP23, gP24, gP25, gP26, gP27, gP28, gP29, gP30, gP31]
def gMg1 : List gMt := [
  (⟨"MixStage$Bank", "isNewlyStale", "(II)Z"⟩, 5, some FieldType.boolean, 0, 5226),
  (⟨"MixStage$Bank", "staleMask", "()I"⟩, 5, some FieldType.int, 0, 5222),
  (⟨"MixStage$Bank", "firstFree", "(I)I"⟩, 3, some FieldType.int, 0, 5234),
  (⟨"MixStage$Bank", "generationBy", "(LMixStage$Sheet;)I"⟩, 5, some FieldType.int, 0, 5110),
  (⟨"MixStage$Bank", "hissOf", "(I)I"⟩, 6, some FieldType.int, 0, 6012),
  (⟨"MixStage$Bank", "ownHiss", "(LMixStage$Sound;)I"⟩, 5, some FieldType.int, 0, 6016),
  (⟨"MixStage$Cue", "<init>", "()V"⟩, 1, none, 1, 1236),
  (⟨"MixStage$Cue", "hasTime", "()Z"⟩, 1, some FieldType.boolean, 1, 4102),
  (⟨"MixStage$Cue", "reset", "(II)V"⟩, 3, none, 1, 3156),
  (⟨"MixStage$Cue", "copy", "(LMixStage$Cue;)V"⟩, 3, none, 1, 4091),
  (⟨"MixStage$Cue", "shift", "(II)V"⟩, 3, none, 1, 4098),
  (⟨"MixStage$Mixer", "<init>", "(LMixStage$Bank;LMixStage$Picture;)V"⟩, 3, none, 2, 2164),
  (⟨"MixStage$Mixer", "mixInto", "([ILMixStage$Sheet;I)I"⟩, 7, some FieldType.int, 2, 5115),
  (⟨"MixStage$Mixer", "fewestHalved", "(LMixStage$Sheet;II)I"⟩, 8, some FieldType.int, 2, 6132),
  (⟨"MixStage$Mixer", "mirrored", "(II)I"⟩, 4, some FieldType.int, 2, 6138),
  (⟨"MixStage$Mixer", "holds", "(LMixStage$Sheet;III)Z"⟩, 5, some FieldType.boolean, 2, 6148)]
def gPg2 : List (List (List gE)) := [gP32, gP33, gP34, gP35, gP36, gP37, gP38, gP39, gP40, gP41, gP42, gP43, gP44, gP45, gP46, gP47]
def gMg2 : List gMt := [
  (⟨"MixStage$Mixer", "countLays", "(LMixStage$Sheet;)I"⟩, 4, some FieldType.int, 2, 6135),
  (⟨"MixStage$Mixer", "loudOfSound", "(II)I"⟩, 4, some FieldType.int, 2, 6103),
  (⟨"MixStage$Mixer", "loudest", "(I)I"⟩, 6, some FieldType.int, 2, 6108),
  (⟨"MixStage$Mixer", "prepare", "(LMixStage$Sheet;)V"⟩, 4, none, 2, 5119),
  (⟨"MixStage$Mixer", "noteHeard", "(LMixStage$Cue;I)V"⟩, 4, none, 2, 5163),
  (⟨"MixStage$Mixer", "spread", "(LMixStage$Cue;II)V"⟩, 11, none, 2, 5129),
  (⟨"MixStage$Mixer", "aroundLoop", "(LMixStage$Sound;I)I"⟩, 3, some FieldType.int, 2, 5153),
  (⟨"MixStage$Mixer", "taken", "(II)I"⟩, 3, some FieldType.int, 2, 5191),
  (⟨"MixStage$Mixer", "isHeard", "(II)Z"⟩, 3, some FieldType.boolean, 2, 6058),
  (⟨"MixStage$Mixer", "given", "(II)I"⟩, 2, some FieldType.int, 2, 5194),
  (⟨"MixStage$Mixer", "turnFader", "(LMixStage$Cue;)V"⟩, 7, none, 2, 5168),
  (⟨"MixStage$Mixer", "blend", "(LMixStage$Sheet;I)V"⟩, 7, none, 2, 5173),
  (⟨"MixStage$Mixer", "clearStem", "(I)V"⟩, 3, none, 2, 5177),
  (⟨"MixStage$Mixer", "turnDown", "(I)V"⟩, 3, none, 2, 5198),
  (⟨"MixStage$Mixer", "addLays", "(LMixStage$Sheet;I)V"⟩, 7, none, 2, 5182),
  (⟨"MixStage$Mixer", "addLay", "(III)V"⟩, 5, none, 2, 5186)]
def gPg3 : List (List (List gE)) := [gP48, gP49, gP50, gP51, gP52, gP53, gP54, gP55, gP56, gP57, gP58, gP59, gP60, gP61, gP62, gP63]
def gMg3 : List gMt := [
  (⟨"MixStage$Mixer", "dip", "(LMixStage$Cue;)V"⟩, 6, none, 2, 5203),
  (⟨"MixStage$Mixer", "tap", "(LMixStage$Cue;)V"⟩, 6, none, 2, 5207),
  (⟨"MixStage$Picture", "<init>", "()V"⟩, 1, none, 3, 1081),
  (⟨"MixStage$Picture", "has", "(I)Z"⟩, 2, some FieldType.boolean, 3, 4153),
  (⟨"MixStage$Picture", "last", "()I"⟩, 1, some FieldType.int, 3, 4046),
  (⟨"MixStage$Picture", "sizeOf", "(I)I"⟩, 2, some FieldType.int, 3, 4131),
  (⟨"MixStage$Picture", "resize", "(I)Z"⟩, 2, some FieldType.boolean, 3, 4119),
  (⟨"MixStage$Picture", "begin", "()I"⟩, 1, some FieldType.int, 3, 4127),
  (⟨"MixStage$Picture", "tellLast", "()V"⟩, 1, none, 3, 4106),
  (⟨"MixStage$Picture", "extend", "(II)I"⟩, 6, some FieldType.int, 3, 4141),
  (⟨"MixStage$Picture", "cameFrom", "(III)I"⟩, 6, some FieldType.int, 3, 4161),
  (⟨"MixStage$Reader", "<init>", "()V"⟩, 2, none, 4, 1141),
  (⟨"MixStage$Reader", "check", "([II)I"⟩, 4, some FieldType.int, 4, 3062),
  (⟨"MixStage$Reader", "start", "()V"⟩, 1, none, 4, 3107),
  (⟨"MixStage$Reader", "placeOfFault", "()I"⟩, 1, some FieldType.int, 4, 4033),
  (⟨"MixStage$Reader", "exchange", "(LMixStage$Rules;)LMixStage$Rules;"⟩, 3, some (FieldType.object "MixStage$Rules"), 4, 4037)]
def gPg4 : List (List (List gE)) := [gP64, gP65, gP66, gP67, gP68, gP69, gP70, gP71, gP72, gP73, gP74, gP75, gP76, gP77, gP78, gP79]
def gMg4 : List gMt := [
  (⟨"MixStage$Reader", "fail", "(I)V"⟩, 2, none, 4, 3119),
  (⟨"MixStage$Reader", "blame", "(II)V"⟩, 3, none, 4, 3136),
  (⟨"MixStage$Reader", "take", "(I)V"⟩, 2, none, 4, 3123),
  (⟨"MixStage$Reader", "takeInt", "(II)I"⟩, 4, some FieldType.int, 4, 3164),
  (⟨"MixStage$Reader", "beginBlock", "()V"⟩, 3, none, 4, 3115),
  (⟨"MixStage$Reader", "endBlock", "()V"⟩, 1, none, 4, 3194),
  (⟨"MixStage$Reader", "endSheet", "(I)V"⟩, 2, none, 4, 4029),
  (⟨"MixStage$Reader", "blockOf", "(J)I"⟩, 4, some FieldType.int, 4, 3131),
  (⟨"MixStage$Reader", "readCues", "()V"⟩, 5, none, 4, 3141),
  (⟨"MixStage$Reader", "isCue", "(I)Z"⟩, 1, some FieldType.boolean, 4, 3144),
  (⟨"MixStage$Reader", "cueAt", "(II)LMixStage$Cue;"⟩, 4, some (FieldType.object "MixStage$Cue"), 4, 3148),
  (⟨"MixStage$Reader", "readLay", "(LMixStage$Cue;)V"⟩, 2, none, 4, 3160),
  (⟨"MixStage$Reader", "readFade", "(LMixStage$Cue;)V"⟩, 2, none, 4, 3172),
  (⟨"MixStage$Reader", "readDip", "(LMixStage$Cue;)V"⟩, 2, none, 4, 3176),
  (⟨"MixStage$Reader", "readTaps", "(LMixStage$Cue;)V"⟩, 3, none, 4, 3180),
  (⟨"MixStage$Reader", "readWeight", "(LMixStage$Cue;)V"⟩, 2, none, 4, 3184)]
def gPg5 : List (List (List gE)) := [gP80, gP81, gP82, gP83, gP84, gP85, gP86, gP87, gP88, gP89, gP90, gP91, gP92, gP93, gP94, gP95]
def gMg5 : List gMt := [
  (⟨"MixStage$Reader", "readUse", "(LMixStage$Cue;)V"⟩, 2, none, 4, 3189),
  (⟨"MixStage$Reader", "readTime", "(LMixStage$Cue;Z)V"⟩, 6, none, 4, 3168),
  (⟨"MixStage$Reader", "fill", "(LMixStage$Sheet;)V"⟩, 2, none, 4, 4079),
  (⟨"MixStage$Reader", "putIn", "(LMixStage$Reader;LMixStage$Sheet;IIII)V"⟩, 11, none, 4, 4082),
  (⟨"MixStage$Reader", "readRules", "()V"⟩, 2, none, 4, 3198),
  (⟨"MixStage$Reader", "isRule", "(I)Z"⟩, 1, some FieldType.boolean, 4, 3205),
  (⟨"MixStage$Reader", "readLoud", "()V"⟩, 3, none, 4, 4021),
  (⟨"MixStage$Reader", "readRight", "()V"⟩, 1, none, 4, 3209),
  (⟨"MixStage$Reader", "readCondition", "()V"⟩, 7, none, 4, 4001),
  (⟨"MixStage$Reader", "takeNots", "()Z"⟩, 3, some FieldType.boolean, 4, 4005),
  (⟨"MixStage$Reader", "takeRelation", "()I"⟩, 2, some FieldType.int, 4, 4009),
  (⟨"MixStage$Reader", "emitLiteral", "(IZ)V"⟩, 3, none, 4, 4013),
  (⟨"MixStage$Reader", "readSum", "()V"⟩, 7, none, 4, 3218),
  (⟨"MixStage$Reader", "rank", "(I)I"⟩, 1, some FieldType.int, 4, 3233),
  (⟨"MixStage$Reader", "hold", "(I)V"⟩, 2, none, 4, 3222),
  (⟨"MixStage$Reader", "release", "(I)V"⟩, 2, none, 4, 3230)]
def gPg6 : List (List (List gE)) := [gP96, gP97, gP98, gP99, gP100, gP101, gP102, gP103, gP104, gP105, gP106, gP107, gP108, gP109, gP110, gP111]
def gMg6 : List gMt := [
  (⟨"MixStage$Rules", "<init>", "()V"⟩, 1, none, 5, 1035),
  (⟨"MixStage$Rules", "empty", "()V"⟩, 1, none, 5, 3202),
  (⟨"MixStage$Rules", "emit", "(I)V"⟩, 2, none, 5, 3226),
  (⟨"MixStage$Rules", "beginRule", "()V"⟩, 1, none, 5, 3213),
  (⟨"MixStage$Rules", "endSum", "()V"⟩, 1, none, 5, 3237),
  (⟨"MixStage$Rules", "endRight", "()V"⟩, 1, none, 5, 4017),
  (⟨"MixStage$Rules", "endLoud", "(II)V"⟩, 3, none, 5, 4025),
  (⟨"MixStage$Rules", "firstLoud", "()I"⟩, 2, some FieldType.int, 5, 6119),
  (⟨"MixStage$Rules", "hundredsOf", "(I)I"⟩, 2, some FieldType.int, 5, 6128),
  (⟨"MixStage$Rules", "widthOf", "(I)I"⟩, 2, some FieldType.int, 5, 6124),
  (⟨"MixStage$Rules", "set", "(II)V"⟩, 3, none, 5, 6205),
  (⟨"MixStage$Rules", "firstRight", "()I"⟩, 5, some FieldType.int, 5, 6214),
  (⟨"MixStage$Rules", "work", "(II)I"⟩, 4, some FieldType.int, 5, 6218),
  (⟨"MixStage$Rules", "step", "(I)V"⟩, 5, none, 5, 6222),
  (⟨"MixStage$Rules", "push", "(I)V"⟩, 2, none, 5, 6226),
  (⟨"MixStage$Rules", "pop", "()I"⟩, 1, some FieldType.int, 5, 6230)]
def gPg7 : List (List (List gE)) := [gP112, gP113, gP114, gP115, gP116, gP117, gP118, gP119, gP120, gP121, gP122, gP123, gP124, gP125, gP126, gP127]
def gMg7 : List gMt := [
  (⟨"MixStage$Rules", "join", "(III)I"⟩, 4, some FieldType.int, 5, 6235),
  (⟨"MixStage$Rules", "divide", "(II)I"⟩, 3, some FieldType.int, 5, 6239),
  (⟨"MixStage$Sheet", "<init>", "(I)V"⟩, 2, none, 6, 4049),
  (⟨"MixStage$Sheet", "cueAt", "(I)LMixStage$Cue;"⟩, 2, some (FieldType.object "MixStage$Cue"), 6, 5125),
  (⟨"MixStage$Sheet", "add", "(LMixStage$Cue;II)V"⟩, 5, none, 6, 4086),
  (⟨"MixStage$Sound", "<init>", "(IIIII)V"⟩, 6, none, 7, 4173),
  (⟨"MixStage$Sound", "canWave", "(IIII)Z"⟩, 5, some FieldType.boolean, 7, 5036),
  (⟨"MixStage$Tokens", "<init>", "()V"⟩, 1, none, 8, 1147),
  (⟨"MixStage$Tokens", "learn", "(ILjava/lang/String;)V"⟩, 8, none, 8, 1153),
  (⟨"MixStage$Tokens", "withLetter", "(JI)J"⟩, 3, some FieldType.long, 8, 1207),
  (⟨"MixStage$Tokens", "kindOf", "(I)I"⟩, 2, some FieldType.int, 8, 3111),
  (⟨"MixStage$Tokens", "valueOf", "(I)J"⟩, 2, some FieldType.long, 8, 3127),
  (⟨"MixStage$Tokens", "placeOf", "(I)I"⟩, 2, some FieldType.int, 8, 3152),
  (⟨"MixStage$Tokens", "scan", "([II)V"⟩, 4, none, 8, 3066),
  (⟨"MixStage$Tokens", "note", "(IIJ)V"⟩, 5, none, 8, 3088),
  (⟨"MixStage$Tokens", "scanOne", "([III)I"⟩, 7, some FieldType.int, 8, 3070)]
def gPg8 : List (List (List gE)) := [gP128, gP129, gP130, gP131, gP132, gP133, gP134, gP135, gP136, gP137, gP138, gP139, gP140, gP141, gP142, gP143]
def gMg8 : List gMt := [
  (⟨"MixStage$Tokens", "scanName", "([III)I"⟩, 7, some FieldType.int, 8, 3077),
  (⟨"MixStage$Tokens", "wordKind", "(J)I"⟩, 4, some FieldType.int, 8, 3081),
  (⟨"MixStage$Tokens", "scanInt", "([III)I"⟩, 7, some FieldType.int, 8, 3093),
  (⟨"MixStage$Tokens", "pairKind", "(I)I"⟩, 1, some FieldType.int, 8, 3097),
  (⟨"MixStage$Tokens", "signKind", "(I)I"⟩, 1, some FieldType.int, 8, 3100),
  (⟨"MixStage$Tracer", "<init>", "(LMixStage$Bank;LMixStage$Picture;LMixStage$Mixer;)V"⟩, 4, none, 9, 2216),
  (⟨"MixStage$Tracer", "seekHeard", "(ILMixStage$Cue;)V"⟩, 5, none, 9, 6051),
  (⟨"MixStage$Tracer", "isSought", "(III)Z"⟩, 5, some FieldType.boolean, 9, 6063),
  (⟨"MixStage$Tracer", "firstFrameOf", "(ILMixStage$Cue;I)I"⟩, 6, some FieldType.int, 9, 6081),
  (⟨"MixStage$Tracer", "fateOf", "(ILMixStage$Cue;I)I"⟩, 12, some FieldType.int, 9, 6047),
  (⟨"MixStage$Tracer", "nextSought", "(I)I"⟩, 3, some FieldType.int, 9, 6069),
  (⟨"MixStage$Tracer", "countSought", "()I"⟩, 3, some FieldType.int, 9, 6073),
  (⟨"MixStage$Tracer", "isOfMusic", "(II)Z"⟩, 6, some FieldType.boolean, 9, 6190),
  (⟨"MixStage$Tracer", "isLayOfMusic", "(LMixStage$Cue;I)Z"⟩, 3, some FieldType.boolean, 9, 6186),
  (⟨"MixStage$Tracer", "laysOfMusic", "(LMixStage$Sheet;I)I"⟩, 5, some FieldType.int, 9, 6209),
  (⟨"MixStage$Tracer", "framesOfMusic", "(LMixStage$Sheet;II)I"⟩, 7, some FieldType.int, 9, 6182)]
def gPg9 : List (List (List gE)) := [gP144, gP145, gP146, gP147, gP148, gP149, gP150, gP151, gP152, gP153, gP154, gP155, gP156, gP157, gP158, gP159]
def gMg9 : List gMt := [
  (⟨"MixStage$Tracer", "seekGiven", "(ILMixStage$Cue;)V"⟩, 5, none, 9, 6195),
  (⟨"MixStage$Tracer", "quarrelOf", "(LMixStage$Sheet;I)I"⟩, 6, some FieldType.int, 9, 6089),
  (⟨"MixStage$Tracer", "doQuarrel", "(LMixStage$Cue;LMixStage$Cue;)Z"⟩, 5, some FieldType.boolean, 9, 6094),
  (⟨"MixStage$Tracer", "fitOf", "(LMixStage$Sound;LMixStage$Sound;II)I"⟩, 6, some FieldType.int, 9, 6162),
  (⟨"MixStage$Tracer", "tryFit", "(LMixStage$Sound;LMixStage$Sound;II)V"⟩, 5, none, 9, 6166),
  (⟨"MixStage$Tracer", "tryStretch", "(LMixStage$Sound;LMixStage$Sound;III)V"⟩, 9, none, 9, 6170),
  (⟨"MixStage$Tracer", "isMet", "(LMixStage$Sound;II)Z"⟩, 4, some FieldType.boolean, 9, 6173),
  (⟨"MixStage$View", "<init>", "()V"⟩, 1, none, 10, 2170),
  (⟨"MixStage$View", "aim", "(LMixStage$Bank;I)V"⟩, 5, none, 10, 5134),
  (⟨"MixStage$View", "sampleAt", "(I)I"⟩, 2, some FieldType.int, 10, 5157),
  (⟨"MixStage", "<init>", "()V"⟩, 1, none, 11, 1025),
  (⟨"MixStage", "feed", "(IIIII)I"⟩, 6, some FieldType.int, 11, 3045),
  (⟨"MixStage", "back", "(I)I"⟩, 2, some FieldType.int, 11, 3054),
  (⟨"MixStage", "read", "()I"⟩, 2, some FieldType.int, 11, 3058),
  (⟨"MixStage", "place", "()I"⟩, 1, some FieldType.int, 11, 4111),
  (⟨"MixStage", "reel", "(I)Z"⟩, 2, some FieldType.boolean, 11, 4115)]
def gPg10 : List (List (List gE)) := [gP160, gP161, gP162, gP163, gP164, gP165, gP166, gP167, gP168, gP169, gP170, gP171, gP172, gP173, gP174, gP175]
def gMg10 : List gMt := [
  (⟨"MixStage", "edition", "()I"⟩, 1, some FieldType.int, 11, 4123),
  (⟨"MixStage", "keep", "(II)I"⟩, 3, some FieldType.int, 11, 4136),
  (⟨"MixStage", "blank", "(I)I"⟩, 2, some FieldType.int, 11, 4145),
  (⟨"MixStage", "frames", "(I)I"⟩, 2, some FieldType.int, 11, 4149),
  (⟨"MixStage", "old", "(III)I"⟩, 4, some FieldType.int, 11, 4157),
  (⟨"MixStage", "sound", "(IIII)I"⟩, 6, some FieldType.int, 11, 4165),
  (⟨"MixStage", "trim", "(III)I"⟩, 4, some FieldType.int, 11, 5011),
  (⟨"MixStage", "mute", "(I)I"⟩, 2, some FieldType.int, 11, 5019),
  (⟨"MixStage", "mixed", "()I"⟩, 1, some FieldType.int, 11, 5028),
  (⟨"MixStage", "wave", "(IIIII)Z"⟩, 8, some FieldType.boolean, 11, 5032),
  (⟨"MixStage", "sample", "(III)Z"⟩, 5, some FieldType.boolean, 11, 5046),
  (⟨"MixStage", "mouth", "(II)I"⟩, 4, some FieldType.int, 11, 5051),
  (⟨"MixStage", "mark", "(II)Z"⟩, 3, some FieldType.boolean, 11, 5055),
  (⟨"MixStage", "hisses", "(II)Z"⟩, 3, some FieldType.boolean, 11, 5064),
  (⟨"MixStage", "make", "(III)I"⟩, 6, some FieldType.int, 11, 5072),
  (⟨"MixStage", "again", "()I"⟩, 6, some FieldType.int, 11, 5218)]
def gPg11 : List (List (List gE)) := [gP176, gP177, gP178, gP179, gP180, gP181, gP182, gP183, gP184, gP185, gP186, gP187, gP188, gP189, gP190, gP191]
def gMg11 : List gMt := [
  (⟨"MixStage", "length", "(I)I"⟩, 2, some FieldType.int, 11, 5238),
  (⟨"MixStage", "heard", "(II)I"⟩, 3, some FieldType.int, 11, 6003),
  (⟨"MixStage", "about", "(II)I"⟩, 4, some FieldType.int, 11, 6008),
  (⟨"MixStage", "leans", "(I)I"⟩, 2, some FieldType.int, 11, 6021),
  (⟨"MixStage", "cues", "(I)I"⟩, 3, some FieldType.int, 11, 6029),
  (⟨"MixStage", "cue", "(III)I"⟩, 5, some FieldType.int, 11, 6033),
  (⟨"MixStage", "fate", "(III)I"⟩, 6, some FieldType.int, 11, 6043),
  (⟨"MixStage", "goes", "(III)I"⟩, 6, some FieldType.int, 11, 6077),
  (⟨"MixStage", "quarrel", "(II)I"⟩, 4, some FieldType.int, 11, 6085),
  (⟨"MixStage", "loud", "(II)I"⟩, 3, some FieldType.int, 11, 6099),
  (⟨"MixStage", "tame", "(I)I"⟩, 4, some FieldType.int, 11, 6115),
  (⟨"MixStage", "seam", "(I)I"⟩, 3, some FieldType.int, 11, 6152),
  (⟨"MixStage", "fit", "(IIII)I"⟩, 7, some FieldType.int, 11, 6158),
  (⟨"MixStage", "sounding", "(III)I"⟩, 5, some FieldType.int, 11, 6178),
  (⟨"MixStage", "owed", "(IIII)I"⟩, 8, some FieldType.int, 11, 6201),
  (⟨"MixStage", "count", "(I)I"⟩, 2, some FieldType.int, 11, 7005)]
def gPg12 : List (List (List gE)) := [gP192, gP193, gP194, gP195, gP196, gP197, gP198, gP199, gP200, gP201, gP202, gP203, gP204, gP205, gP206, gP207]
def gMg12 : List gMt := [
  (⟨"MixStage", "putWord", "(I)V"⟩, 3, none, 11, 3049),
  (⟨"MixStage", "tellSheet", "()V"⟩, 2, none, 11, 4041),
  (⟨"MixStage", "sheetAt", "(I)LMixStage$Sheet;"⟩, 2, some (FieldType.object "MixStage$Sheet"), 11, 5076),
  (⟨"MixStage", "cueOf", "(LMixStage$Sheet;I)LMixStage$Cue;"⟩, 2, some (FieldType.object "MixStage$Cue"), 11, 6036),
  (⟨"MixStage", "reaches", "(LMixStage$Sheet;I)Z"⟩, 3, some FieldType.boolean, 11, 5080),
  (⟨"MixStage", "remake", "(LMixStage$Sound;)V"⟩, 4, none, 11, 5106),
  (⟨"MixStage", "isSample", "(J)Z"⟩, 2, some FieldType.boolean, 11, 5039),
  (⟨"MixStage", "at", "([II)I"⟩, 2, some FieldType.int, 11, 3073),
  (⟨"MixStage", "at", "([JI)J"⟩, 2, some FieldType.long, 11, 3084),
  (⟨"MixStage", "put", "([III)V"⟩, 3, none, 11, 1085),
  (⟨"MixStage", "put", "([JIJ)V"⟩, 4, none, 11, 1204),
  (⟨"MixStage", "clear", "([II)V"⟩, 2, none, 11, 5091),
  (⟨"MixStageModel", "<init>", "()V"⟩, 1, none, 12, 7010),
  (⟨"MixStageModel", "feed", "(IIIII)I"⟩, 6, some FieldType.int, 12, 8095),
  (⟨"MixStageModel", "put", "(I)V"⟩, 3, none, 12, 8099),
  (⟨"MixStageModel", "back", "(I)I"⟩, 2, some FieldType.int, 12, 8103)]
def gPg13 : List (List (List gE)) := [gP208, gP209, gP210, gP211, gP212, gP213, gP214, gP215, gP216, gP217, gP218, gP219, gP220, gP221, gP222, gP223]
def gMg13 : List gMt := [
  (⟨"MixStageModel", "at", "(I)I"⟩, 2, some FieldType.int, 12, 8115),
  (⟨"MixStageModel", "isDigit", "(I)Z"⟩, 1, some FieldType.boolean, 12, 8125),
  (⟨"MixStageModel", "isLetter", "(I)Z"⟩, 1, some FieldType.boolean, 12, 8122),
  (⟨"MixStageModel", "more", "(JI)J"⟩, 3, some FieldType.long, 12, 7017),
  (⟨"MixStageModel", "word", "(IIIIIII)J"⟩, 7, some FieldType.long, 12, 7014),
  (⟨"MixStageModel", "token", "(IIIJ)V"⟩, 6, none, 12, 8119),
  (⟨"MixStageModel", "cut", "()V"⟩, 8, none, 12, 8111),
  (⟨"MixStageModel", "sign", "(III)I"⟩, 6, some FieldType.int, 12, 8129),
  (⟨"MixStageModel", "is", "(I)Z"⟩, 2, some FieldType.boolean, 12, 8133),
  (⟨"MixStageModel", "fail", "(I)V"⟩, 2, none, 12, 8145),
  (⟨"MixStageModel", "wrong", "(II)V"⟩, 4, none, 12, 8161),
  (⟨"MixStageModel", "next", "()V"⟩, 1, none, 12, 8141),
  (⟨"MixStageModel", "must", "(I)V"⟩, 2, none, 12, 8157),
  (⟨"MixStageModel", "read", "()I"⟩, 2, some FieldType.int, 12, 8107),
  (⟨"MixStageModel", "place", "()I"⟩, 1, some FieldType.int, 12, 8213),
  (⟨"MixStageModel", "number", "(II)I"⟩, 5, some FieldType.int, 12, 8153)]
def gPg14 : List (List (List gE)) := [gP224, gP225, gP226, gP227, gP228, gP229, gP230, gP231, gP232, gP233, gP234, gP235, gP236, gP237, gP238, gP239]
def gMg14 : List gMt := [
  (⟨"MixStageModel", "tellSheet", "()V"⟩, 2, none, 12, 8185),
  (⟨"MixStageModel", "tellBlock", "()V"⟩, 3, none, 12, 8189),
  (⟨"MixStageModel", "tellCues", "()V"⟩, 1, none, 12, 8193),
  (⟨"MixStageModel", "tellCue", "()V"⟩, 6, none, 12, 8197),
  (⟨"MixStageModel", "tellLay", "(I)V"⟩, 2, none, 12, 8201),
  (⟨"MixStageModel", "tellTime", "(IZ)V"⟩, 6, none, 12, 8205),
  (⟨"MixStageModel", "tellTaps", "(I)V"⟩, 5, none, 12, 8209),
  (⟨"MixStageModel", "tellRules", "()V"⟩, 1, none, 12, 8137),
  (⟨"MixStageModel", "tellRule", "()V"⟩, 4, none, 12, 8149),
  (⟨"MixStageModel", "literal", "(Z)V"⟩, 6, none, 12, 8181),
  (⟨"MixStageModel", "emit", "(II)V"⟩, 3, none, 12, 8173),
  (⟨"MixStageModel", "comesOut", "(Z)V"⟩, 3, none, 12, 8177),
  (⟨"MixStageModel", "expression", "()V"⟩, 3, none, 12, 8165),
  (⟨"MixStageModel", "unit", "()V"⟩, 1, none, 12, 8169),
  (⟨"MixStageModel", "termOf", "(II)I"⟩, 8, some FieldType.int, 12, 10039),
  (⟨"MixStageModel", "holds", "(I)Z"⟩, 8, some FieldType.boolean, 12, 10035)]
def gPg15 : List (List (List gE)) := [gP240, gP241, gP242, gP243, gP244, gP245, gP246, gP247, gP248, gP249, gP250, gP251, gP252, gP253, gP254, gP255]
def gMg15 : List gMt := [
  (⟨"MixStageModel", "reel", "(I)Z"⟩, 2, some FieldType.boolean, 12, 8217),
  (⟨"MixStageModel", "edition", "()I"⟩, 1, some FieldType.int, 12, 8221),
  (⟨"MixStageModel", "mayCut", "(I)Z"⟩, 4, some FieldType.boolean, 12, 8229),
  (⟨"MixStageModel", "cuts", "(IIZ)I"⟩, 6, some FieldType.int, 12, 8233),
  (⟨"MixStageModel", "keep", "(II)I"⟩, 4, some FieldType.int, 12, 8225),
  (⟨"MixStageModel", "blank", "(I)I"⟩, 2, some FieldType.int, 12, 8237),
  (⟨"MixStageModel", "isEdition", "(I)Z"⟩, 2, some FieldType.boolean, 12, 9005),
  (⟨"MixStageModel", "frames", "(I)I"⟩, 2, some FieldType.int, 12, 9001),
  (⟨"MixStageModel", "oldOf", "(III)I"⟩, 6, some FieldType.int, 12, 9013),
  (⟨"MixStageModel", "old", "(III)I"⟩, 4, some FieldType.int, 12, 9009),
  (⟨"MixStageModel", "isSound", "(I)Z"⟩, 2, some FieldType.boolean, 12, 9032),
  (⟨"MixStageModel", "in", "(III)Z"⟩, 3, some FieldType.boolean, 12, 9020),
  (⟨"MixStageModel", "adds", "(IIIII)I"⟩, 6, some FieldType.int, 12, 9024),
  (⟨"MixStageModel", "sound", "(IIII)I"⟩, 5, some FieldType.int, 12, 9017),
  (⟨"MixStageModel", "trim", "(III)I"⟩, 4, some FieldType.int, 12, 9028),
  (⟨"MixStageModel", "mute", "(I)I"⟩, 2, some FieldType.int, 12, 9036)]
def gPg16 : List (List (List gE)) := [gP256, gP257, gP258, gP259, gP260, gP261, gP262, gP263, gP264, gP265, gP266, gP267, gP268, gP269, gP270, gP271]
def gMg16 : List gMt := [
  (⟨"MixStageModel", "mixed", "()I"⟩, 1, some FieldType.int, 12, 9040),
  (⟨"MixStageModel", "isOwn", "(I)Z"⟩, 2, some FieldType.boolean, 12, 9048),
  (⟨"MixStageModel", "told", "(I)V"⟩, 2, none, 12, 9054),
  (⟨"MixStageModel", "wave", "(IIIII)Z"⟩, 9, some FieldType.boolean, 12, 9044),
  (⟨"MixStageModel", "sample", "(III)Z"⟩, 4, some FieldType.boolean, 12, 9058),
  (⟨"MixStageModel", "mouth", "(II)I"⟩, 3, some FieldType.int, 12, 9062),
  (⟨"MixStageModel", "mark", "(II)Z"⟩, 3, some FieldType.boolean, 12, 9066),
  (⟨"MixStageModel", "hisses", "(II)Z"⟩, 3, some FieldType.boolean, 12, 9070),
  (⟨"MixStageModel", "rootOf", "(I)I"⟩, 3, some FieldType.int, 12, 10027),
  (⟨"MixStageModel", "lengthOf", "(I)I"⟩, 7, some FieldType.int, 12, 9078),
  (⟨"MixStageModel", "sampleOf", "(II)I"⟩, 5, some FieldType.int, 12, 9086),
  (⟨"MixStageModel", "length", "(I)I"⟩, 2, some FieldType.int, 12, 9074),
  (⟨"MixStageModel", "heard", "(II)I"⟩, 3, some FieldType.int, 12, 9082),
  (⟨"MixStageModel", "frameOf", "(III)I"⟩, 4, some FieldType.int, 12, 9110),
  (⟨"MixStageModel", "unfolds", "(I)V"⟩, 4, none, 12, 9106),
  (⟨"MixStageModel", "atOf", "(I)I"⟩, 2, some FieldType.int, 12, 9138)]
def gPg17 : List (List (List gE)) := [gP272, gP273, gP274, gP275, gP276, gP277, gP278, gP279, gP280, gP281, gP282, gP283, gP284, gP285, gP286, gP287]
def gMg17 : List gMt := [
  (⟨"MixStageModel", "toOf", "(I)I"⟩, 2, some FieldType.int, 12, 9146),
  (⟨"MixStageModel", "isThere", "(II)Z"⟩, 6, some FieldType.boolean, 12, 9134),
  (⟨"MixStageModel", "mixes", "(I)V"⟩, 8, none, 12, 9130),
  (⟨"MixStageModel", "fader", "(II)I"⟩, 8, some FieldType.int, 12, 9142),
  (⟨"MixStageModel", "dips", "(I)V"⟩, 8, none, 12, 9151),
  (⟨"MixStageModel", "taps", "(I)V"⟩, 7, none, 12, 9155),
  (⟨"MixStageModel", "lays", "(I)I"⟩, 4, some FieldType.int, 12, 9102),
  (⟨"MixStageModel", "nextOf", "(I)I"⟩, 2, some FieldType.int, 12, 9098),
  (⟨"MixStageModel", "leansOf", "(I)I"⟩, 5, some FieldType.int, 12, 9094),
  (⟨"MixStageModel", "leans", "(I)I"⟩, 2, some FieldType.int, 12, 9090),
  (⟨"MixStageModel", "isSheet", "(I)Z"⟩, 2, some FieldType.boolean, 12, 9122),
  (⟨"MixStageModel", "makes", "(III)I"⟩, 8, some FieldType.int, 12, 9126),
  (⟨"MixStageModel", "isLater", "(II)Z"⟩, 3, some FieldType.boolean, 12, 9118),
  (⟨"MixStageModel", "make", "(III)I"⟩, 6, some FieldType.int, 12, 9114),
  (⟨"MixStageModel", "stampOf", "(I)I"⟩, 4, some FieldType.int, 12, 9171),
  (⟨"MixStageModel", "marksOf", "(I)I"⟩, 7, some FieldType.int, 12, 9167)]
def gPg18 : List (List (List gE)) := [gP288, gP289, gP290, gP291, gP292, gP293, gP294, gP295, gP296, gP297, gP298, gP299, gP300, gP301, gP302, gP303]
def gMg18 : List gMt := [
  (⟨"MixStageModel", "stales", "()V"⟩, 4, none, 12, 9163),
  (⟨"MixStageModel", "leansOnStale", "(I)Z"⟩, 4, some FieldType.boolean, 12, 9175),
  (⟨"MixStageModel", "again", "()I"⟩, 5, some FieldType.int, 12, 9159),
  (⟨"MixStageModel", "hiss", "(I)I"⟩, 7, some FieldType.int, 12, 9183),
  (⟨"MixStageModel", "about", "(II)I"⟩, 3, some FieldType.int, 12, 9179),
  (⟨"MixStageModel", "cues", "(I)I"⟩, 2, some FieldType.int, 12, 9187),
  (⟨"MixStageModel", "isCue", "(II)Z"⟩, 3, some FieldType.boolean, 12, 9195),
  (⟨"MixStageModel", "cue", "(III)I"⟩, 5, some FieldType.int, 12, 9191),
  (⟨"MixStageModel", "hears", "(II)I"⟩, 6, some FieldType.int, 12, 9207),
  (⟨"MixStageModel", "isLay", "(III)Z"⟩, 4, some FieldType.boolean, 12, 9203),
  (⟨"MixStageModel", "fate", "(III)I"⟩, 13, some FieldType.int, 12, 9199),
  (⟨"MixStageModel", "goes", "(III)I"⟩, 7, some FieldType.int, 12, 9211),
  (⟨"MixStageModel", "quarrel", "(II)I"⟩, 8, some FieldType.int, 12, 9215),
  (⟨"MixStageModel", "loudOf", "(II)J"⟩, 9, some FieldType.long, 12, 9223),
  (⟨"MixStageModel", "loud", "(II)I"⟩, 5, some FieldType.int, 12, 9219),
  (⟨"MixStageModel", "bits", "(I)I"⟩, 3, some FieldType.int, 12, 9231)]
def gPg19 : List (List (List gE)) := [gP304, gP305, gP306, gP307, gP308, gP309, gP310, gP311, gP312, gP313, gP314, gP315, gP316, gP317, gP318, gP319]
def gMg19 : List gMt := [
  (⟨"MixStageModel", "tame", "(I)I"⟩, 8, some FieldType.int, 12, 9228),
  (⟨"MixStageModel", "seam", "(I)I"⟩, 3, some FieldType.int, 12, 9235),
  (⟨"MixStageModel", "missed", "(IIIII)I"⟩, 12, some FieldType.int, 12, 10011),
  (⟨"MixStageModel", "fits", "(III)V"⟩, 9, none, 12, 10007),
  (⟨"MixStageModel", "isLine", "(I)Z"⟩, 2, some FieldType.boolean, 12, 10003),
  (⟨"MixStageModel", "fit", "(IIII)I"⟩, 5, some FieldType.int, 12, 9239),
  (⟨"MixStageModel", "soundsIn", "(III)I"⟩, 7, some FieldType.int, 12, 10023),
  (⟨"MixStageModel", "isMusic", "(III)Z"⟩, 4, some FieldType.boolean, 12, 10019),
  (⟨"MixStageModel", "sounding", "(III)I"⟩, 4, some FieldType.int, 12, 10015),
  (⟨"MixStageModel", "owed", "(IIII)I"⟩, 7, some FieldType.int, 12, 10031),
  (⟨"MixStageModel", "count", "(I)I"⟩, 2, some FieldType.int, 12, 10044),
  (⟨"java/lang/Integer", "bitCount", "(I)I"⟩, 1, some FieldType.int, 99, 6141),
  (⟨"java/lang/Math", "abs", "(I)I"⟩, 1, some FieldType.int, 99, 6111),
  (⟨"java/lang/Math", "max", "(II)I"⟩, 2, some FieldType.int, 99, 3103),
  (⟨"java/lang/Math", "max", "(JJ)J"⟩, 4, some FieldType.long, 99, 5213),
  (⟨"java/lang/Math", "min", "(II)I"⟩, 2, some FieldType.int, 99, 5139)]
def gPg20 : List (List (List gE)) := [gP320, gP321, gP322, gP323, gP324, gP325, gP326, gP327, gP328, gP329, gP330, gP331, gP332]
def gMg20 : List gMt := [
  (⟨"java/lang/Math", "min", "(JJ)J"⟩, 4, some FieldType.long, 99, 5210),
  (⟨"java/lang/String", "length", "()I"⟩, 1, some FieldType.int, 13, 1157),
  (⟨"java/lang/String", "charAt", "(I)C"⟩, 2, some FieldType.char, 13, 1167),
  (⟨"java/lang/String", "coder", "()B"⟩, 1, some FieldType.byte, 13, 1161),
  (⟨"java/lang/String", "isLatin1", "()Z"⟩, 1, some FieldType.boolean, 13, 1171),
  (⟨"java/lang/String", "checkIndex", "(II)V"⟩, 2, none, 13, 1177),
  (⟨"java/lang/StringLatin1", "charAt", "([BI)C"⟩, 2, some FieldType.char, 99, 1174),
  (⟨"java/lang/StringUTF16", "getChar", "([BI)C"⟩, 2, some FieldType.char, 99, 1195),
  (⟨"java/lang/StringUTF16", "length", "([B)I"⟩, 1, some FieldType.int, 99, 1191),
  (⟨"java/lang/StringUTF16", "charAt", "([BI)C"⟩, 2, some FieldType.char, 99, 1185),
  (⟨"java/lang/StringUTF16", "checkIndex", "(I[B)V"⟩, 2, none, 99, 1188),
  (⟨"java/util/Arrays", "fill", "([II)V"⟩, 4, none, 99, 5094),
  (⟨"jdk/internal/util/Preconditions", "checkIndex", "(IILjava/util/function/BiFunction;)I"⟩, 3, some FieldType.int, 99, 1182)]
def gPgs : List (List (List (List gE))) := [gPg0, gPg1, gPg2, gPg3, gPg4, gPg5, gPg6, gPg7, gPg8, gPg9, gPg10, gPg11, gPg12, gPg13, gPg14, gPg15, gPg16, gPg17, gPg18, gPg19, gPg20]
def gMgs : List (List gMt) := [gMg0, gMg1, gMg2, gMg3, gMg4, gMg5, gMg6, gMg7, gMg8, gMg9, gMg10, gMg11, gMg12, gMg13, gMg14, gMg15, gMg16, gMg17, gMg18, gMg19, gMg20]
def gProg (j : Nat) : List (List gE) := (gPgs.getD (j / 16) []).getD (j % 16) []
def gM (j : Nat) : gMt := (gMgs.getD (j / 16) []).getD (j % 16) (⟨"", "", ""⟩, 0, none, 99, 0)
def gAtt (j pc : Nat) : Option gE := ((gProg j).getD (pc / 32) []).find? (fun e => Nat.beq e.1 pc)
end
section
/-! THE RUN: a pure run of the methods over the pure picture; a run stops ahead of the return. -/
abbrev gO : Type := gH × Nat × List Value
def gup (f : Nat → Value) (k : Nat) (v : Value) : Nat → Value := fun j => bif Nat.beq j k then v else f j
def gLk (k : Nat) : gL → Option Value
  | [] => none
  | q :: l => bif Nat.beq q.1 k then some q.2 else gLk k l
def gSt1 (lv : gL) (i : Nat) (v : Value) : gL := (i, v) :: lv.filter (fun q => !(q.1 == i) && !(q.1 + 1 == i && q.2.category == 2))
def gSt2 (lv : gL) (i : Nat) (v : Value) : gL := (i, v) :: lv.filter (fun q => !(q.1 == i) && (!(q.1 == i + 1) && !(q.1 + 1 == i && q.2.category == 2)))
def gCmp (c : Jvm.ClassFile.Cond) (x y : Int32) : Bool := match c with
  | .eq => decide (x = y)
  | .ne => decide (¬ x = y)
  | .lt => decide (x < y)
  | .ge => decide (y ≤ x)
  | .gt => decide (y < x)
  | .le => decide (x ≤ y)
def gFit (ty : FieldType) (w : Value) : Bool := decide (narrow ty w = w) && fits ty w
def gIn (x : Int32) (n : Nat) : Bool := !decide (x < 0) && Nat.blt x.toNatClampNeg n
def gCat (st : List Value) : Bool := Nat.ble (st.map fun v => v.category).sum 8
def gMax (j : Nat) : Nat := (gM j).2.1
def gRt (j : Nat) : Option FieldType := (gM j).2.2.1
def gEl : Nat → Nat
  | 4 => 6
  | 5 => 7
  | 6 => 1
  | _ => 99
section GINS
variable (K : Nat → gL → List Value → gH → Option gO) (C : Nat → List Value → gH → Option gO) (rt : Option FieldType) (dp : Bool) (pc a b : Nat) (v : Int) (lv : gL) (st : List Value) (lh : gH)
def gI_iload (i n : Nat) : Option gO := match gLk i lv with
  | some (.int x) => K (pc + n) lv (.int x :: st) lh
  | _ => none
def gI_lload (i n : Nat) : Option gO := match gLk i lv with
  | some (.long x) => K (pc + n) lv (.long x :: st) lh
  | _ => none
def gI_aload (i n : Nat) : Option gO := match gLk i lv with
  | some (.ref x) => K (pc + n) lv (.ref x :: st) lh
  | some .null => K (pc + n) lv (.null :: st) lh
  | _ => none
def gI_istore (i n : Nat) : Option gO := match st with
  | .int x :: r => K (pc + n) (gSt1 lv i (.int x)) r lh
  | _ => none
def gI_astore (i n : Nat) : Option gO := match st with
  | .ref x :: r => K (pc + n) (gSt1 lv i (.ref x)) r lh
  | .null :: r => K (pc + n) (gSt1 lv i .null) r lh
  | _ => none
def gI_lstore (i n : Nat) : Option gO := match st with
  | .long x :: r => K (pc + n) (gSt2 lv i (.long x)) r lh
  | _ => none
def gI_iinc (i : Nat) (n : Int) : Option gO := match gLk i lv with
  | some (.int x) => K (pc + 3) (gSt1 lv i (.int (x + Int32.ofInt n))) st lh
  | _ => none
def gI_int (x : Int32) (n : Nat) : Option gO := K (pc + n) lv (.int x :: st) lh
def gI_long (x : Int64) (n : Nat) : Option gO := K (pc + n) lv (.long x :: st) lh
def gI_bin (f : Int32 → Int32 → Int32) : Option gO := match st with
  | .int y :: .int x :: r => K (pc + 1) lv (.int (f x y) :: r) lh
  | _ => none
def gI_div (f : Int32 → Int32 → Int32) : Option gO := match st with
  | .int y :: .int x :: r => bif decide (y = 0) then none else K (pc + 1) lv (.int (f x y) :: r) lh
  | _ => none
def gI_un (f : Int32 → Int32) : Option gO := match st with
  | .int x :: r => K (pc + 1) lv (.int (f x) :: r) lh
  | _ => none
def gI_lbin (f : Int64 → Int64 → Int64) : Option gO := match st with
  | .long y :: .long x :: r => K (pc + 1) lv (.long (f x y) :: r) lh
  | _ => none
def gI_ldiv : Option gO := match st with
  | .long y :: .long x :: r => bif decide (y = 0) then none else K (pc + 1) lv (.long (x / y) :: r) lh
  | _ => none
def gI_lcmp : Option gO := match st with
  | .long y :: .long x :: r => K (pc + 1) lv (.int (lg_cmp x y) :: r) lh
  | _ => none
def gI_i2l : Option gO := match st with
  | .int x :: r => K (pc + 1) lv (.long x.toInt64 :: r) lh
  | _ => none
def gI_l2i : Option gO := match st with
  | .long x :: r => K (pc + 1) lv (.int x.toInt32 :: r) lh
  | _ => none
def gI_dup : Option gO := match st with
  | w :: r => bif Nat.beq w.category 1 then K (pc + 1) lv (w :: w :: r) lh else none
  | _ => none
def gI_dup2 : Option gO := match st with
  | w :: r => bif Nat.beq w.category 2 then K (pc + 1) lv (w :: w :: r) lh else (match r with
    | w2 :: r2 => bif Nat.beq w.category 1 && Nat.beq w2.category 1 then K (pc + 1) lv (w :: w2 :: w :: w2 :: r2) lh else none
    | _ => none)
  | _ => none
def gI_pop : Option gO := match st with
  | w :: r => bif Nat.beq w.category 1 then K (pc + 1) lv r lh else none
  | _ => none
def gI_if (c : Jvm.ClassFile.Cond) : Option gO := match st with
  | .int x :: r => bif gCmp c x 0 then K a lv r lh else K (pc + 3) lv r lh
  | _ => none
def gI_icmp (c : Jvm.ClassFile.Cond) : Option gO := match st with
  | .int y :: .int x :: r => bif gCmp c x y then K a lv r lh else K (pc + 3) lv r lh
  | _ => none
def gI_ifnull : Option gO := match st with
  | .ref _ :: r => K (pc + 3) lv r lh
  | .null :: r => K a lv r lh
  | _ => none
def gI_ifnonnull : Option gO := match st with
  | .ref _ :: r => K a lv r lh
  | .null :: r => K (pc + 3) lv r lh
  | _ => none
def gI_table (dflt lo hi : Int) (offs : Array Int) : Option gO := match st with
  | .int x :: r => bif decide (x.toInt < lo) || decide (hi < x.toInt) then (bif decide (0 ≤ (pc : Int) + dflt) then K ((pc : Int) + dflt).toNat lv r lh else none) else (match offs[(x.toInt - lo).toNat]? with
    | some off => bif decide (0 ≤ (pc : Int) + off) then K ((pc : Int) + off).toNat lv r lh else none
    | none => none)
  | _ => none
def gI_lookup (dflt : Int) (ps : Array (Int × Int)) : Option gO := match st with
  | .int x :: r => bif decide (0 ≤ (pc : Int) + Op.lookupswitch.offset ps.toList dflt x.toInt) then K ((pc : Int) + Op.lookupswitch.offset ps.toList dflt x.toInt).toNat lv r lh else none
  | _ => none
def gI_get : Option gO := match st with
  | .ref i :: r => (match lh[i]? with
    | some (.inl o) => bif Nat.beq o.1 a then K (pc + 3) lv (o.2 b :: r) lh else none
    | _ => none)
  | _ => none
def gI_put : Option gO := match st with
  | w :: .ref i :: r => (match lh[i]? with
    | some (.inl o) => bif Nat.beq o.1 a && (gFit (gYt a b) w && Nat.ble 7 i) then K (pc + 3) lv r (lh.set i (.inl (o.1, gup o.2 b w))) else none
    | _ => none)
  | _ => none
def gI_gets : Option gO := bif Nat.beq a 0 then K (pc + 3) lv (.int 1 :: st) lh else K (pc + 3) lv (.retAddr 0 :: st) lh
def gI_new : Option gO := K (pc + 3) lv (.ref lh.length :: st) (lh ++ [.inl (a, fun j => defaultValue (gYt a j))])
def gI_newa (n : Nat) : Option gO := match st with
  | .int x :: r => bif !decide (x < 0) && Nat.ble x.toNatClampNeg 65536 then K (pc + n) lv (.ref lh.length :: r) (lh ++ [.inr (a, x.toNatClampNeg, fun _ => defaultValue (gTy a))]) else none
  | _ => none
def gI_len : Option gO := match st with
  | .ref i :: r => (match lh[i]? with
    | some (.inr y) => K (pc + 1) lv (.int (Int32.ofNat y.2.1) :: r) lh
    | _ => none)
  | _ => none
def gI_ald (t : Nat → Bool) : Option gO := match st with
  | .int x :: .ref i :: r => (match lh[i]? with
    | some (.inr y) => bif t y.1 && gIn x y.2.1 then K (pc + 1) lv (y.2.2 x.toNatClampNeg :: r) lh else none
    | _ => none)
  | _ => none
def gI_ist (t : Nat → Bool) (g : Nat → Int32 → Value) : Option gO := match st with
  | .int w :: .int x :: .ref i :: r => (match lh[i]? with
    | some (.inr y) => bif t y.1 && (gIn x y.2.1 && Nat.ble 7 i) then K (pc + 1) lv r (lh.set i (.inr (y.1, y.2.1, gup y.2.2 x.toNatClampNeg (g y.1 w)))) else none
    | _ => none)
  | _ => none
def gI_last : Option gO := match st with
  | .long w :: .int x :: .ref i :: r => (match lh[i]? with
    | some (.inr y) => bif Nat.beq y.1 1 && (gIn x y.2.1 && Nat.ble 7 i) then K (pc + 1) lv r (lh.set i (.inr (y.1, y.2.1, gup y.2.2 x.toNatClampNeg (.long w)))) else none
    | _ => none)
  | _ => none
def gI_aast : Option gO := match st with
  | .ref w :: .int x :: .ref i :: r => (match lh[i]? with
    | some (.inr y) => (match lh[w]? with
      | some (.inl o) => bif Nat.beq (gEl y.1) o.1 && (gIn x y.2.1 && Nat.ble 7 i) then K (pc + 1) lv r (lh.set i (.inr (y.1, y.2.1, gup y.2.2 x.toNatClampNeg (.ref w)))) else none
      | _ => none)
    | _ => none)
  | _ => none
def gBack (lv : gL) (n : Nat) (r : List Value) : Option gO → Option gO
  | some o => K (pc + n) lv (o.2.2 ++ r) o.1
  | none => none
def gI_virt : Option gO := match st.drop b with
  | .ref i :: r => (match lh[i]? with
    | some (.inl o) => bif Int.toNat v == o.1 && gCat r then gBack K pc lv 3 r (C a (.ref i :: (st.take b).reverse) lh) else none
    | _ => none)
  | _ => none
def gI_stat : Option gO := bif Nat.ble b st.length && gCat (st.drop b) then gBack K pc lv 3 (st.drop b) (C a (st.take b).reverse lh) else none
def gI_spec : Option gO := bif Nat.beq a 9999 then (match st with
  | .ref _ :: r => bif dp && gCat r then K (pc + 3) lv r lh else none
  | _ => none) else (match st.drop b with
  | .ref i :: r => bif gCat r then gBack K pc lv 3 r (C a (.ref i :: (st.take b).reverse) lh) else none
  | _ => none)
def gI_iret : Option gO := match st with
  | [.int x] => (match rt with
    | some ty => bif decide (narrow ty (.int x) = .int x) then some (lh, pc, st) else none
    | none => none)
  | _ => none
def gI_lret : Option gO := match st with
  | [.long _] => (match rt with
    | some .long => some (lh, pc, st)
    | _ => none)
  | _ => none
def gI_aret : Option gO := match rt with
  | some (.object _) => (match st with
    | [.ref _] => some (lh, pc, st)
    | [.null] => some (lh, pc, st)
    | _ => none)
  | some (.array _) => (match st with
    | [.ref _] => some (lh, pc, st)
    | [.null] => some (lh, pc, st)
    | _ => none)
  | _ => none
def gI_vret : Option gO := match st with
  | [] => (match rt with
    | none => some (lh, pc, st)
    | _ => none)
  | _ => none
def gIns : Instr → Option gO
  | .iload_n i => gI_iload K pc lv st lh i 1
  | .iload i => gI_iload K pc lv st lh i 2
  | .lload_n i => gI_lload K pc lv st lh i 1
  | .lload i => gI_lload K pc lv st lh i 2
  | .aload_n i => gI_aload K pc lv st lh i 1
  | .aload i => gI_aload K pc lv st lh i 2
  | .istore_n i => gI_istore K pc lv st lh i 1
  | .istore i => gI_istore K pc lv st lh i 2
  | .lstore_n i => gI_lstore K pc lv st lh i 1
  | .lstore i => gI_lstore K pc lv st lh i 2
  | .astore_n i => gI_astore K pc lv st lh i 1
  | .astore i => gI_astore K pc lv st lh i 2
  | .iinc i n => gI_iinc K pc lv st lh i n
  | .iconst n => gI_int K pc lv st lh (Int32.ofInt n) 1
  | .bipush n => gI_int K pc lv st lh (Int8.ofInt n).toInt32 2
  | .sipush n => gI_int K pc lv st lh (Int16.ofInt n).toInt32 3
  | .lconst n => gI_long K pc lv st lh (Int64.ofNat (n : Nat)) 1
  | .aconst_null => K (pc + 1) lv (.null :: st) lh
  | .ldc _ => bif Nat.beq b 1 then K (pc + 2) lv (.ref (2 * a + 1) :: st) lh else gI_int K pc lv st lh (Int32.ofInt v) 2
  | .ldc_w _ => gI_int K pc lv st lh (Int32.ofInt v) 3
  | .ldc2_w _ => gI_long K pc lv st lh (Int64.ofInt v) 3
  | .iadd => gI_bin K pc lv st lh (fun x y => x + y)
  | .isub => gI_bin K pc lv st lh (fun x y => x - y)
  | .imul => gI_bin K pc lv st lh (fun x y => x * y)
  | .iand => gI_bin K pc lv st lh (fun x y => x &&& y)
  | .ior => gI_bin K pc lv st lh (fun x y => x ||| y)
  | .ixor => gI_bin K pc lv st lh (fun x y => x ^^^ y)
  | .ishl => gI_bin K pc lv st lh (fun x y => x <<< (y &&& 31))
  | .ishr => gI_bin K pc lv st lh (fun x y => x >>> (y &&& 31))
  | .iushr => gI_bin K pc lv st lh (fun x y => (x.toUInt32 >>> (y.toUInt32 &&& Int32.toUInt32 31)).toInt32)
  | .idiv => gI_div K pc lv st lh (fun x y => x / y)
  | .irem => gI_div K pc lv st lh (fun x y => x - x / y * y)
  | .ineg => gI_un K pc lv st lh (fun x => -x)
  | .i2b => gI_un K pc lv st lh (fun x => x.toInt8.toInt32)
  | .i2c => gI_un K pc lv st lh (fun x => (x.toUInt32 % 65536).toInt32)
  | .ladd => gI_lbin K pc lv st lh (fun x y => x + y)
  | .lsub => gI_lbin K pc lv st lh (fun x y => x - y)
  | .lmul => gI_lbin K pc lv st lh (fun x y => x * y)
  | .ldiv => gI_ldiv K pc lv st lh
  | .lcmp => gI_lcmp K pc lv st lh
  | .i2l => gI_i2l K pc lv st lh
  | .l2i => gI_l2i K pc lv st lh
  | .dup => gI_dup K pc lv st lh
  | .dup2 => gI_dup2 K pc lv st lh
  | .pop => gI_pop K pc lv st lh
  | .ifCond c _ => gI_if K pc a lv st lh c
  | .if_icmp c _ => gI_icmp K pc a lv st lh c
  | .ifnull _ => gI_ifnull K pc a lv st lh
  | .ifnonnull _ => gI_ifnonnull K pc a lv st lh
  | .goto _ => K a lv st lh
  | .tableswitch dflt lo hi offs => gI_table K pc lv st lh dflt lo hi offs
  | .lookupswitch dflt ps => gI_lookup K pc lv st lh dflt ps
  | .getfield _ => gI_get K pc a b lv st lh
  | .putfield _ => gI_put K pc a b lv st lh
  | .getstatic _ => gI_gets K pc a lv st lh
  | .new _ => gI_new K pc a lv st lh
  | .newarray _ => gI_newa K pc a lv st lh 2
  | .anewarray _ => gI_newa K pc a lv st lh 3
  | .arraylength => gI_len K pc lv st lh
  | .iaload => gI_ald K pc lv st lh (fun t => Nat.beq t 0)
  | .laload => gI_ald K pc lv st lh (fun t => Nat.beq t 1)
  | .baload => gI_ald K pc lv st lh (fun t => Nat.beq t 2 || Nat.beq t 3)
  | .aaload => gI_ald K pc lv st lh (fun t => Nat.ble 4 t)
  | .iastore => gI_ist K pc lv st lh (fun t => Nat.beq t 0) (fun _ w => .int w)
  | .bastore => gI_ist K pc lv st lh (fun t => Nat.beq t 2 || Nat.beq t 3) (fun t w => narrow (gTy t) (.int w))
  | .lastore => gI_last K pc lv st lh
  | .aastore => gI_aast K pc lv st lh
  | .invokevirtual _ => gI_virt K C pc a b v lv st lh
  | .invokestatic _ => gI_stat K C pc a b lv st lh
  | .invokespecial _ => gI_spec K C dp pc a b lv st lh
  | .ireturn => gI_iret rt pc st lh
  | .lreturn => gI_lret rt pc st lh
  | .areturn => gI_aret rt pc st lh
  | .return_ => gI_vret rt pc st lh
  | _ => none
end GINS
def gCall (ih : Nat → Nat → Nat → gL → List Value → gH → Option gO) (d j : Nat) (as : List Value) (lh : gH) : Option gO := match d with
  | 0 => none
  | d + 1 => bif Nat.ble (lg_sl as).length (gMax j) then ih j d 0 (lv_args 0 as) [] lh else none
def gStep (ih : Nat → Nat → Nat → gL → List Value → gH → Option gO) (j d pc : Nat) (lv : gL) (st : List Value) (lh : gH) : Option gO := match gAtt j pc with
  | none => none
  | some e => gIns (ih j d) (gCall ih d) (gRt j) (Nat.ble 1 d) pc e.2.2.1 e.2.2.2.1 e.2.2.2.2.1 lv st lh e.2.1
/-- n steps at most, calls d deep at most -/
noncomputable def gRun (n : Nat) : Nat → Nat → Nat → gL → List Value → gH → Option gO := Nat.rec (motive := fun _ => Nat → Nat → Nat → gL → List Value → gH → Option gO) (fun _ _ _ _ _ _ => none) (fun _ ih => gStep ih) n
theorem gRun_zero : gRun 0 = fun _ _ _ _ _ _ => none := rfl
theorem gRun_succ (n : Nat) : gRun (n + 1) = gStep (gRun n) := rfl
end
section
/-! the start: the outer cells -/
def gTx0 : List Int32 := [98, 108, 111, 99, 107, 32, 101, 110, 100, 32, 115, 104, 101, 101, 116, 32, 114, 117, 108, 101, 115, 32, 108, 97, 121, 32, 102, 97, 100, 101, 32, 100, 105, 112, 32, 116, 97, 112, 115, 32, 99, 108, 105, 112, 32, 117, 115, 101, 32, 97, 116, 32, 102, 114, 111, 109, 32, 102, 111, 114, 32, 103, 97, 105, 110, 32, 115, 112, 101, 101, 100, 32]
def gTx1 : List Int32 := [115, 116, 101, 109, 32, 116, 111, 32, 117, 110, 100, 101, 114, 32, 98, 121, 32, 104, 111, 108, 100, 32, 111, 102, 32, 109, 97, 114, 107, 32, 114, 105, 103, 104, 116, 32, 105, 102, 32, 108, 111, 117, 100, 32, 105, 110, 32, 111, 114, 32, 97, 110, 100, 32, 110, 111, 116, 32]
def gTx2 : List Int32 := [115, 101, 99, 111, 110, 100, 115, 32, 111, 119, 110, 101, 114, 32, 108, 97, 110, 100, 32, 102, 114, 97, 109, 101, 115, 32, 104, 101, 97, 114, 100, 32]
def gTxV (l : List Int32) : Nat → Value := fun j => .int (l.getD j 0)
def gStr (q : Nat) : Nat → Value := fun j => bif Nat.beq j 0 then .ref q else .int 0
def gH0 (L : Nat) (xs : Nat → Int32) : gH := [.inr (0, L, fun j => .int (xs j)), .inl (13, gStr 2), .inr (2, 72, gTxV gTx0), .inl (13, gStr 4), .inr (2, 58, gTxV gTx1), .inl (13, gStr 6), .inr (2, 32, gTxV gTx2)]
end
section
/-! THE CHECK: each entry of the table of instructions is what the code and the tables' words say. -/
def gTB : List Cond := lw_tbl.filter gGood
def gTabs : List (List Cond) := [tables_1_1, tables_1_2, tables_1_3, tables_1_4, tables_1_5, tables_1_6, tables_1_7, tables_1_8, tables_1_9, tables_1_10]
theorem gTabs_all : tables_1 = gTabs.flatten := by simp [gTabs, tables_1]
/-- a word by its place: 1000 * (number of the table's piece) + place, or place of a private method -/
def gWd (t : Nat) : Option Cond := bif Nat.blt t 1000 then (lw_privs[t]?).map (fun q => Cond.selects q.1.cls q.1 q.1) else (gTabs.getD (t / 1000 - 1) [])[t % 1000]?
theorem gWd.mem {t : Nat} {w : Cond} (h : gWd t = some w) : w ∈ lw_tbl := by
  unfold gWd at h
  cases hb : Nat.blt t 1000 with
  | true =>
    rw [hb] at h
    obtain ⟨q, hq, rfl⟩ := Option.map_eq_some_iff.mp h
    exact List.mem_append_left _ (List.mem_map.mpr ⟨q, List.mem_of_getElem? hq, rfl⟩)
  | false =>
    rw [hb] at h
    refine List.mem_append_right _ ?_
    rw [gTabs_all]
    have h2 : w ∈ gTabs.getD (t / 1000 - 1) [] := List.mem_of_getElem? h
    refine List.mem_flatten.mpr ⟨_, ?_, h2⟩
    rw [List.getD_eq_getElem?_getD] at h2 ⊢
    cases hg : gTabs[t / 1000 - 1]? with
    | none => rw [hg] at h2; exact absurd h2 List.not_mem_nil
    | some x => exact List.mem_of_getElem? hg
def gHas (t : Nat) (w : Cond) : Bool := decide (gWd t = some w) && gGood w
theorem gHas.mem {t : Nat} {w : Cond} (h : gHas t w = true) : w ∈ gTB := by
  unfold gHas at h
  rw [Bool.and_eq_true] at h
  exact List.mem_filter.mpr ⟨gWd.mem (of_decide_eq_true h.1), h.2⟩
/-- a method's code: that of its word -/
def gBt (t : Nat) : ByteArray := match gWd t with
  | some (.code _ b _ _) => b
  | _ => ByteArray.empty
def gBy (j : Nat) : ByteArray := bif Nat.beq j 0 then code else gBt (gM j).2.2.2.2
def gCk (t : Nat) (y : MethodName) (n : Nat) (r : Option FieldType) : Bool := match gWd t with
  | some (.code y' _ n' r') => decide (y' = y) && (Nat.beq n' n && decide (r' = r))
  | _ => false
theorem gCk.mem {t : Nat} {y : MethodName} {n : Nat} {r : Option FieldType} (h : gCk t y n r = true) : Cond.code y (gBt t) n r ∈ gTB := by
  unfold gCk at h
  split at h
  · rename_i y' b n' r' hw
    rw [Bool.and_eq_true, Bool.and_eq_true] at h
    have e1 : y' = y := of_decide_eq_true h.1
    have e2 : n' = n := Nat.eq_of_beq_eq_true h.2.1
    have e3 : r' = r := of_decide_eq_true h.2.2
    subst e1; subst e2; subst e3
    have e : gBt t = b := by
      unfold gBt
      rw [hw]
    rw [e]
    exact List.mem_filter.mpr ⟨gWd.mem hw, rfl⟩
  · cases h
def gLen : Instr → Nat
  | .iload _ | .lload _ | .aload _ | .istore _ | .lstore _ | .astore _ | .bipush _ | .ldc _ | .newarray _ => 2
  | .iinc .. | .sipush _ | .ldc_w _ | .ldc2_w _ | .ifCond .. | .if_icmp .. | .ifnull _ | .ifnonnull _ | .goto _ | .getfield _ | .putfield _ | .getstatic _ | .new _ | .anewarray _ | .invokevirtual _ | .invokestatic _ | .invokespecial _ => 3
  | _ => 1
def gAny : Instr → Bool
  | .tableswitch .. => true
  | .lookupswitch .. => true
  | _ => false
def gts (ts : List Nat) (i : Nat) : Nat := ts.getD i 0
def gckF (own : String) (idx a b : Nat) (ts : List Nat) : Bool := Nat.blt b (gN a) && (gHas (gts ts 0) (.fieldLink own idx (gT a b).1 (gT a b).2.1 (gT a b).2.2.1) || gHas (gts ts 0) (.fieldLinkNest own idx (gT a b).1 (gT a b).2.1 (gT a b).2.2.1 "MixStage"))
def gckP (own name : String) (idx a b : Nat) (ts : List Nat) : Bool := bif (gT a b).2.2.2 then (gHas (gts ts 0) (.fieldLink own idx (gT a b).1 (gT a b).2.1 (gT a b).2.2.1) && (decide (name = "<init>") && decide ((gT a b).1 = own))) else true
/-- what a call of method a asks, but its link: (its place in ts of initialized, of code) -/
def gckM (a n : Nat) (ti tc : Nat) : Bool := Nat.blt a 333 && (Nat.ble (gMax a) 80 && (gHas ti (.initialized (gM a).1.cls) && ((gCk tc (gM a).1 (gMax a) (gRt a) && (Nat.beq tc (gM a).2.2.2.2 && Nat.blt 0 a)) && (decide ((gM a).1.cls ≠ "java/lang/invoke/MethodHandle") && (decide ((gM a).1.cls ≠ "java/lang/invoke/VarHandle") && (plainFor (gM a).1 && decide ((parseMethodDescriptor (gM a).1.desc).map (fun d => d.parameters.length) = some n)))))))
def gckL (own : String) (idx a t : Nat) : Bool := gHas t (.methodLink own idx (gM a).1) || gHas t (.methodLinkNest own idx (gM a).1 "MixStage")
def gck (own name : String) (mx pc a b : Nat) (v : Int) (ts : List Nat) : Instr → Bool
  | .istore_n i => Nat.blt i mx
  | .astore_n i => Nat.blt i mx
  | .istore i => Nat.blt i mx
  | .astore i => Nat.blt i mx
  | .lstore_n i => Nat.blt (i + 1) mx
  | .lstore i => Nat.blt (i + 1) mx
  | .iinc i _ => Nat.blt i mx
  | .ldc idx => bif Nat.beq b 1 then Nat.blt a 3 && (decide (own = "MixStage$Tokens") && Nat.beq idx (gSt a).1) else gHas (gts ts 0) (.constant own idx (Int32.ofInt v))
  | .ldc_w idx => gHas (gts ts 0) (.constant own idx (Int32.ofInt v))
  | .ldc2_w idx => gHas (gts ts 0) (.constantLong own idx (Int64.ofInt v))
  | .ifCond _ off => decide ((pc : Int) + off = (a : Int))
  | .if_icmp _ off => decide ((pc : Int) + off = (a : Int))
  | .ifnull off => decide ((pc : Int) + off = (a : Int))
  | .ifnonnull off => decide ((pc : Int) + off = (a : Int))
  | .goto off => decide ((pc : Int) + off = (a : Int))
  | .lookupswitch _ ps => (ps.toList.zip (ps.toList.drop 1)).all (fun (a, next) => decide (a.1 < next.1))
  | .getfield idx => Nat.blt a 14 && gckF own idx a b ts
  | .putfield idx => Nat.blt a 13 && (gckF own idx a b ts && gckP own name idx a b ts)
  | .getstatic idx => bif Nat.beq a 0 then gHas (gts ts 0) (.fieldLink own idx "java/lang/String" "COMPACT_STRINGS" "Z") else gHas (gts ts 0) (.fieldLink own idx "jdk/internal/util/Preconditions" "SIOOBE_FORMATTER" "Ljava/util/function/BiFunction;")
  | .new idx => Nat.blt a 13 && (gHas (gts ts 0) (.classLink own idx (gCn a)) && (gHas (gts ts 1) (.instantiable (gCn a) (gN a)) && gHas (gts ts 2) (.initialized (gCn a))))
  | .newarray at' => Nat.blt a 4 && (decide (newarray.typeOf at' = gTy a) && gHas (gts ts 0) (.arrayClass (newarray.typeOf at')))
  | .anewarray idx => Nat.blt 3 a && (Nat.blt a 7 && (gHas (gts ts 0) (.classLink own idx (gCn (gEl a))) && gHas (gts ts 1) (.arrayOver (.object (gCn (gEl a))))))
  | .invokevirtual idx => gckL own idx a (gts ts 0) && (gHas (gts ts 1) (.instanceMethod (gM a).1) && (gHas (gts ts 2) (.selects (gM a).1.cls (gM a).1 (gM a).1) && (gckM a b (gts ts 3) (gts ts 4) && (Nat.blt v.toNat 14 && decide (gCn v.toNat = (gM a).1.cls)))))
  | .invokestatic idx => gckL own idx a (gts ts 0) && (gHas (gts ts 1) (.static (gM a).1) && gckM a b (gts ts 2) (gts ts 3))
  | .invokespecial idx => bif Nat.beq a 9999 then gHas (gts ts 0) (.methodLink own idx objectInit) && (gHas (gts ts 1) (.instanceMethod objectInit) && gHas (gts ts 2) (.code objectInit ⟨#[0xb1]⟩ 1 none)) else gckL own idx a (gts ts 0) && (gHas (gts ts 1) (.instanceMethod (gM a).1) && (decide ((gM a).1.name = "<init>") && (decide (gRt a = none) && gckM a b (gts ts 2) (gts ts 3))))
  | _ => true
def gchk (j : Nat) (e : gE) : Bool := (match decode (gBy j) e.1 with
  | .ok r => decide (r.1 = e.2.1) && (Nat.beq r.2 (gLen e.2.1) || gAny e.2.1)
  | .error _ => false) && gck (gM j).1.cls (gM j).1.name (gMax j) e.1 e.2.2.1 e.2.2.2.1 e.2.2.2.2.1 e.2.2.2.2.2 e.2.1
end
section
/-! THE CHECK, RUN: printed by wip/gen/gen07.py. -/
def gPchkC (j q : Nat) : Bool := ((gProg j).getD q []).all (gchk j)
def gPchkJ (j : Nat) : Bool := (List.range (gProg j).length).all (gPchkC j)
set_option maxRecDepth 1000000 in
theorem gk_0_0 : (List.range' 0 1).all (gPchkC 0) = true := by decide +kernel
set_option maxRecDepth 1000000 in
theorem gk_0_1 : (List.range' 1 1).all (gPchkC 0) = true := by decide +kernel
set_option maxRecDepth 1000000 in
theorem gk_0_2 : (List.range' 2 1).all (gPchkC 0) = true := by decide +kernel
set_option maxRecDepth 1000000 in
theorem gk_0_3 : (List.range' 3 1).all (gPchkC 0) = true := by decide +kernel
set_option maxRecDepth 1000000 in
theorem gk_0_4 : (List.range' 4 1).all (gPchkC 0) = true := by decide +kernel
set_option maxRecDepth 1000000 in
theorem gk_0_5 : (List.range' 5 1).all (gPchkC 0) = true := by decide +kernel
set_option maxRecDepth 1000000 in
theorem gk_0_6 : (List.range' 6 1).all (gPchkC 0) = true := by decide +kernel
set_option maxRecDepth 1000000 in
theorem gk_0_7 : (List.range' 7 1).all (gPchkC 0) = true := by decide +kernel
set_option maxRecDepth 1000000 in
theorem gk_0_8 : (List.range' 8 1).all (gPchkC 0) = true := by decide +kernel
set_option maxRecDepth 1000000 in
theorem gk_0_9 : (List.range' 9 1).all (gPchkC 0) = true := by decide +kernel
set_option maxRecDepth 1000000 in
theorem gk_0_10 : (List.range' 10 1).all (gPchkC 0) = true := by decide +kernel
set_option maxRecDepth 1000000 in
theorem gk_0_11 : (List.range' 11 1).all (gPchkC 0) = true := by decide +kernel
set_option maxRecDepth 1000000 in
theorem gk_0_12 : (List.range' 12 1).all (gPchkC 0) = true := by decide +kernel
set_option maxRecDepth 1000000 in
theorem gk_0_13 : (List.range' 13 1).all (gPchkC 0) = true := by decide +kernel
set_option maxRecDepth 1000000 in
theorem gk_0_14 : (List.range' 14 1).all (gPchkC 0) = true := by decide +kernel
set_option maxRecDepth 1000000 in
theorem gk_0_15 : (List.range' 15 1).all (gPchkC 0) = true := by decide +kernel
set_option maxRecDepth 1000000 in
theorem gk_0_16 : (List.range' 16 1).all (gPchkC 0) = true := by decide +kernel
set_option maxRecDepth 1000000 in
theorem gk_0_17 : (List.range' 17 1).all (gPchkC 0) = true := by decide +kernel
set_option maxRecDepth 1000000 in
theorem gk_0_18 : (List.range' 18 1).all (gPchkC 0) = true := by decide +kernel
set_option maxRecDepth 1000000 in
theorem gk_0_19 : (List.range' 19 1).all (gPchkC 0) = true := by decide +kernel
set_option maxRecDepth 1000000 in
theorem gk_0_20 : (List.range' 20 1).all (gPchkC 0) = true := by decide +kernel
set_option maxRecDepth 1000000 in
theorem gk_0_21 : (List.range' 21 1).all (gPchkC 0) = true := by decide +kernel
set_option maxRecDepth 1000000 in
theorem gk_0_22 : (List.range' 22 1).all (gPchkC 0) = true := by decide +kernel
set_option maxRecDepth 1000000 in
theorem gk_0_23 : (List.range' 23 1).all (gPchkC 0) = true := by decide +kernel
set_option maxRecDepth 1000000 in
theorem gk_0_24 : (List.range' 24 1).all (gPchkC 0) = true := by decide +kernel
set_option maxRecDepth 1000000 in
theorem gk_0_25 : (List.range' 25 1).all (gPchkC 0) = true := by decide +kernel
set_option maxRecDepth 1000000 in
theorem gk_0_26 : (List.range' 26 1).all (gPchkC 0) = true := by decide +kernel
set_option maxRecDepth 1000000 in
theorem gk_0_27 : (List.range' 27 1).all (gPchkC 0) = true := by decide +kernel
set_option maxRecDepth 1000000 in
theorem gk_0_28 : (List.range' 28 1).all (gPchkC 0) = true := by decide +kernel
set_option maxRecDepth 1000000 in
theorem gk_0_29 : (List.range' 29 1).all (gPchkC 0) = true := by decide +kernel
set_option maxRecDepth 1000000 in
theorem gk_0_30 : (List.range' 30 1).all (gPchkC 0) = true := by decide +kernel
set_option maxRecDepth 1000000 in
theorem gk_0_31 : (List.range' 31 1).all (gPchkC 0) = true := by decide +kernel
set_option maxRecDepth 1000000 in
theorem gk_0_32 : (List.range' 32 1).all (gPchkC 0) = true := by decide +kernel
set_option maxRecDepth 1000000 in
theorem gk_0_33 : (List.range' 33 1).all (gPchkC 0) = true := by decide +kernel
set_option maxRecDepth 1000000 in
theorem gk_0_34 : (List.range' 34 1).all (gPchkC 0) = true := by decide +kernel
set_option maxRecDepth 1000000 in
theorem gk_0_35 : (List.range' 35 1).all (gPchkC 0) = true := by decide +kernel
set_option maxRecDepth 1000000 in
theorem gk_0_36 : (List.range' 36 1).all (gPchkC 0) = true := by decide +kernel
set_option maxRecDepth 1000000 in
theorem gk_0_37 : (List.range' 37 1).all (gPchkC 0) = true := by decide +kernel
set_option maxRecDepth 1000000 in
theorem gk_0_38 : (List.range' 38 1).all (gPchkC 0) = true := by decide +kernel
set_option maxRecDepth 1000000 in
theorem gk_0_39 : (List.range' 39 1).all (gPchkC 0) = true := by decide +kernel
set_option maxRecDepth 1000000 in
theorem gk_0_40 : (List.range' 40 1).all (gPchkC 0) = true := by decide +kernel
set_option maxRecDepth 1000000 in
theorem gk_0_41 : (List.range' 41 1).all (gPchkC 0) = true := by decide +kernel
set_option maxRecDepth 1000000 in
theorem gk_0_42 : (List.range' 42 1).all (gPchkC 0) = true := by decide +kernel
set_option maxRecDepth 1000000 in
theorem gk_0_43 : (List.range' 43 1).all (gPchkC 0) = true := by decide +kernel
set_option maxRecDepth 1000000 in
theorem gk_0_44 : (List.range' 44 1).all (gPchkC 0) = true := by decide +kernel
theorem gk_0 : gPchkJ 0 = true := by
  unfold gPchkJ
  rw [show (gProg 0).length = 45 by decide +kernel, show List.range 45 = List.range' 0 1 ++ List.range' 1 1 ++ List.range' 2 1 ++ List.range' 3 1 ++ List.range' 4 1 ++ List.range' 5 1 ++ List.range' 6 1 ++ List.range' 7 1 ++ List.range' 8 1 ++ List.range' 9 1 ++ List.range' 10 1 ++ List.range' 11 1 ++ List.range' 12 1 ++ List.range' 13 1 ++ List.range' 14 1 ++ List.range' 15 1 ++ List.range' 16 1 ++ List.range' 17 1 ++ List.range' 18 1 ++ List.range' 19 1 ++ List.range' 20 1 ++ List.range' 21 1 ++ List.range' 22 1 ++ List.range' 23 1 ++ List.range' 24 1 ++ List.range' 25 1 ++ List.range' 26 1 ++ List.range' 27 1 ++ List.range' 28 1 ++ List.range' 29 1 ++ List.range' 30 1 ++ List.range' 31 1 ++ List.range' 32 1 ++ List.range' 33 1 ++ List.range' 34 1 ++ List.range' 35 1 ++ List.range' 36 1 ++ List.range' 37 1 ++ List.range' 38 1 ++ List.range' 39 1 ++ List.range' 40 1 ++ List.range' 41 1 ++ List.range' 42 1 ++ List.range' 43 1 ++ List.range' 44 1 by decide +kernel]
  simp only [List.all_append, gk_0_0, gk_0_1, gk_0_2, gk_0_3, gk_0_4, gk_0_5, gk_0_6, gk_0_7, gk_0_8, gk_0_9, gk_0_10, gk_0_11, gk_0_12, gk_0_13, gk_0_14, gk_0_15, gk_0_16, gk_0_17, gk_0_18, gk_0_19, gk_0_20, gk_0_21, gk_0_22, gk_0_23, gk_0_24, gk_0_25, gk_0_26, gk_0_27, gk_0_28, gk_0_29, gk_0_30, gk_0_31, gk_0_32, gk_0_33, gk_0_34, gk_0_35, gk_0_36, gk_0_37, gk_0_38, gk_0_39, gk_0_40, gk_0_41, gk_0_42, gk_0_43, gk_0_44, Bool.and_self]
set_option maxRecDepth 1000000 in
theorem gk_92_0 : (List.range' 0 3).all (gPchkC 92) = true := by decide +kernel
set_option maxRecDepth 1000000 in
theorem gk_92_3 : (List.range' 3 3).all (gPchkC 92) = true := by decide +kernel
set_option maxRecDepth 1000000 in
theorem gk_92_6 : (List.range' 6 3).all (gPchkC 92) = true := by decide +kernel
end
section
/-! THE CHECK, RUN, on (wip/gen/gen07.py). -/
theorem gk_92 : gPchkJ 92 = true := by
  unfold gPchkJ
  rw [show (gProg 92).length = 9 by decide +kernel, show List.range 9 = List.range' 0 3 ++ List.range' 3 3 ++ List.range' 6 3 by decide +kernel]
  simp only [List.all_append, gk_92_0, gk_92_3, gk_92_6, Bool.and_self]
set_option maxRecDepth 1000000 in
theorem gk_204_0 : (List.range' 0 3).all (gPchkC 204) = true := by decide +kernel
set_option maxRecDepth 1000000 in
theorem gk_204_3 : (List.range' 3 3).all (gPchkC 204) = true := by decide +kernel
set_option maxRecDepth 1000000 in
theorem gk_204_6 : (List.range' 6 3).all (gPchkC 204) = true := by decide +kernel
set_option maxRecDepth 1000000 in
theorem gk_204_9 : (List.range' 9 3).all (gPchkC 204) = true := by decide +kernel
set_option maxRecDepth 1000000 in
theorem gk_204_12 : (List.range' 12 3).all (gPchkC 204) = true := by decide +kernel
set_option maxRecDepth 1000000 in
theorem gk_204_15 : (List.range' 15 3).all (gPchkC 204) = true := by decide +kernel
set_option maxRecDepth 1000000 in
theorem gk_204_18 : (List.range' 18 3).all (gPchkC 204) = true := by decide +kernel
set_option maxRecDepth 1000000 in
theorem gk_204_21 : (List.range' 21 3).all (gPchkC 204) = true := by decide +kernel
set_option maxRecDepth 1000000 in
theorem gk_204_24 : (List.range' 24 3).all (gPchkC 204) = true := by decide +kernel
set_option maxRecDepth 1000000 in
theorem gk_204_27 : (List.range' 27 3).all (gPchkC 204) = true := by decide +kernel
set_option maxRecDepth 1000000 in
theorem gk_204_30 : (List.range' 30 3).all (gPchkC 204) = true := by decide +kernel
set_option maxRecDepth 1000000 in
theorem gk_204_33 : (List.range' 33 3).all (gPchkC 204) = true := by decide +kernel
set_option maxRecDepth 1000000 in
theorem gk_204_36 : (List.range' 36 3).all (gPchkC 204) = true := by decide +kernel
set_option maxRecDepth 1000000 in
theorem gk_204_39 : (List.range' 39 3).all (gPchkC 204) = true := by decide +kernel
theorem gk_204 : gPchkJ 204 = true := by
  unfold gPchkJ
  rw [show (gProg 204).length = 42 by decide +kernel, show List.range 42 = List.range' 0 3 ++ List.range' 3 3 ++ List.range' 6 3 ++ List.range' 9 3 ++ List.range' 12 3 ++ List.range' 15 3 ++ List.range' 18 3 ++ List.range' 21 3 ++ List.range' 24 3 ++ List.range' 27 3 ++ List.range' 30 3 ++ List.range' 33 3 ++ List.range' 36 3 ++ List.range' 39 3 by decide +kernel]
  simp only [List.all_append, gk_204_0, gk_204_3, gk_204_6, gk_204_9, gk_204_12, gk_204_15, gk_204_18, gk_204_21, gk_204_24, gk_204_27, gk_204_30, gk_204_33, gk_204_36, gk_204_39, Bool.and_self]
set_option maxRecDepth 1000000 in
theorem gk_214_0 : (List.range' 0 3).all (gPchkC 214) = true := by decide +kernel
set_option maxRecDepth 1000000 in
theorem gk_214_3 : (List.range' 3 3).all (gPchkC 214) = true := by decide +kernel
set_option maxRecDepth 1000000 in
theorem gk_214_6 : (List.range' 6 3).all (gPchkC 214) = true := by decide +kernel
set_option maxRecDepth 1000000 in
theorem gk_214_9 : (List.range' 9 1).all (gPchkC 214) = true := by decide +kernel
theorem gk_214 : gPchkJ 214 = true := by
  unfold gPchkJ
  rw [show (gProg 214).length = 10 by decide +kernel, show List.range 10 = List.range' 0 3 ++ List.range' 3 3 ++ List.range' 6 3 ++ List.range' 9 1 by decide +kernel]
  simp only [List.all_append, gk_214_0, gk_214_3, gk_214_6, gk_214_9, Bool.and_self]
set_option maxRecDepth 1000000 in
theorem gk_227_0 : (List.range' 0 3).all (gPchkC 227) = true := by decide +kernel
set_option maxRecDepth 1000000 in
theorem gk_227_3 : (List.range' 3 3).all (gPchkC 227) = true := by decide +kernel
set_option maxRecDepth 1000000 in
theorem gk_227_6 : (List.range' 6 3).all (gPchkC 227) = true := by decide +kernel
set_option maxRecDepth 1000000 in
theorem gk_227_9 : (List.range' 9 3).all (gPchkC 227) = true := by decide +kernel
set_option maxRecDepth 1000000 in
theorem gk_227_12 : (List.range' 12 3).all (gPchkC 227) = true := by decide +kernel
set_option maxRecDepth 1000000 in
theorem gk_227_15 : (List.range' 15 3).all (gPchkC 227) = true := by decide +kernel
set_option maxRecDepth 1000000 in
theorem gk_227_18 : (List.range' 18 2).all (gPchkC 227) = true := by decide +kernel
theorem gk_227 : gPchkJ 227 = true := by
  unfold gPchkJ
  rw [show (gProg 227).length = 20 by decide +kernel, show List.range 20 = List.range' 0 3 ++ List.range' 3 3 ++ List.range' 6 3 ++ List.range' 9 3 ++ List.range' 12 3 ++ List.range' 15 3 ++ List.range' 18 2 by decide +kernel]
  simp only [List.all_append, gk_227_0, gk_227_3, gk_227_6, gk_227_9, gk_227_12, gk_227_15, gk_227_18, Bool.and_self]
set_option maxRecDepth 1000000 in
theorem gk_228_0 : (List.range' 0 3).all (gPchkC 228) = true := by decide +kernel
set_option maxRecDepth 1000000 in
theorem gk_228_3 : (List.range' 3 3).all (gPchkC 228) = true := by decide +kernel
set_option maxRecDepth 1000000 in
theorem gk_228_6 : (List.range' 6 2).all (gPchkC 228) = true := by decide +kernel
theorem gk_228 : gPchkJ 228 = true := by
  unfold gPchkJ
  rw [show (gProg 228).length = 8 by decide +kernel, show List.range 8 = List.range' 0 3 ++ List.range' 3 3 ++ List.range' 6 2 by decide +kernel]
  simp only [List.all_append, gk_228_0, gk_228_3, gk_228_6, Bool.and_self]
set_option maxRecDepth 1000000 in
theorem gk_232_0 : (List.range' 0 3).all (gPchkC 232) = true := by decide +kernel
set_option maxRecDepth 1000000 in
theorem gk_232_3 : (List.range' 3 3).all (gPchkC 232) = true := by decide +kernel
set_option maxRecDepth 1000000 in
theorem gk_232_6 : (List.range' 6 3).all (gPchkC 232) = true := by decide +kernel
set_option maxRecDepth 1000000 in
theorem gk_232_9 : (List.range' 9 1).all (gPchkC 232) = true := by decide +kernel
theorem gk_232 : gPchkJ 232 = true := by
  unfold gPchkJ
  rw [show (gProg 232).length = 10 by decide +kernel, show List.range 10 = List.range' 0 3 ++ List.range' 3 3 ++ List.range' 6 3 ++ List.range' 9 1 by decide +kernel]
  simp only [List.all_append, gk_232_0, gk_232_3, gk_232_6, gk_232_9, Bool.and_self]
set_option maxRecDepth 1000000 in
theorem gk_236_0 : (List.range' 0 3).all (gPchkC 236) = true := by decide +kernel
set_option maxRecDepth 1000000 in
theorem gk_236_3 : (List.range' 3 3).all (gPchkC 236) = true := by decide +kernel
set_option maxRecDepth 1000000 in
theorem gk_236_6 : (List.range' 6 3).all (gPchkC 236) = true := by decide +kernel
theorem gk_236 : gPchkJ 236 = true := by
  unfold gPchkJ
  rw [show (gProg 236).length = 9 by decide +kernel, show List.range 9 = List.range' 0 3 ++ List.range' 3 3 ++ List.range' 6 3 by decide +kernel]
  simp only [List.all_append, gk_236_0, gk_236_3, gk_236_6, Bool.and_self]
set_option maxRecDepth 1000000 in
theorem gk_239_0 : (List.range' 0 3).all (gPchkC 239) = true := by decide +kernel
set_option maxRecDepth 1000000 in
theorem gk_239_3 : (List.range' 3 3).all (gPchkC 239) = true := by decide +kernel
set_option maxRecDepth 1000000 in
theorem gk_239_6 : (List.range' 6 3).all (gPchkC 239) = true := by decide +kernel
theorem gk_239 : gPchkJ 239 = true := by
  unfold gPchkJ
  rw [show (gProg 239).length = 9 by decide +kernel, show List.range 9 = List.range' 0 3 ++ List.range' 3 3 ++ List.range' 6 3 by decide +kernel]
  simp only [List.all_append, gk_239_0, gk_239_3, gk_239_6, Bool.and_self]
set_option maxRecDepth 1000000 in
theorem gk_270_0 : (List.range' 0 3).all (gPchkC 270) = true := by decide +kernel
set_option maxRecDepth 1000000 in
theorem gk_270_3 : (List.range' 3 3).all (gPchkC 270) = true := by decide +kernel
set_option maxRecDepth 1000000 in
theorem gk_270_6 : (List.range' 6 1).all (gPchkC 270) = true := by decide +kernel
end
section
/-! THE CHECK, RUN, on (wip/gen/gen07.py). -/
theorem gk_270 : gPchkJ 270 = true := by
  unfold gPchkJ
  rw [show (gProg 270).length = 7 by decide +kernel, show List.range 7 = List.range' 0 3 ++ List.range' 3 3 ++ List.range' 6 1 by decide +kernel]
  simp only [List.all_append, gk_270_0, gk_270_3, gk_270_6, Bool.and_self]
set_option maxRecDepth 1000000 in
theorem gk_274_0 : (List.range' 0 3).all (gPchkC 274) = true := by decide +kernel
set_option maxRecDepth 1000000 in
theorem gk_274_3 : (List.range' 3 3).all (gPchkC 274) = true := by decide +kernel
set_option maxRecDepth 1000000 in
theorem gk_274_6 : (List.range' 6 3).all (gPchkC 274) = true := by decide +kernel
set_option maxRecDepth 1000000 in
theorem gk_274_9 : (List.range' 9 3).all (gPchkC 274) = true := by decide +kernel
set_option maxRecDepth 1000000 in
theorem gk_274_12 : (List.range' 12 3).all (gPchkC 274) = true := by decide +kernel
set_option maxRecDepth 1000000 in
theorem gk_274_15 : (List.range' 15 2).all (gPchkC 274) = true := by decide +kernel
theorem gk_274 : gPchkJ 274 = true := by
  unfold gPchkJ
  rw [show (gProg 274).length = 17 by decide +kernel, show List.range 17 = List.range' 0 3 ++ List.range' 3 3 ++ List.range' 6 3 ++ List.range' 9 3 ++ List.range' 12 3 ++ List.range' 15 2 by decide +kernel]
  simp only [List.all_append, gk_274_0, gk_274_3, gk_274_6, gk_274_9, gk_274_12, gk_274_15, Bool.and_self]
set_option maxRecDepth 1000000 in
theorem gk_287_0 : (List.range' 0 3).all (gPchkC 287) = true := by decide +kernel
set_option maxRecDepth 1000000 in
theorem gk_287_3 : (List.range' 3 3).all (gPchkC 287) = true := by decide +kernel
set_option maxRecDepth 1000000 in
theorem gk_287_6 : (List.range' 6 3).all (gPchkC 287) = true := by decide +kernel
theorem gk_287 : gPchkJ 287 = true := by
  unfold gPchkJ
  rw [show (gProg 287).length = 9 by decide +kernel, show List.range 9 = List.range' 0 3 ++ List.range' 3 3 ++ List.range' 6 3 by decide +kernel]
  simp only [List.all_append, gk_287_0, gk_287_3, gk_287_6, Bool.and_self]
set_option maxRecDepth 1000000 in
theorem gk_304_0 : (List.range' 0 3).all (gPchkC 304) = true := by decide +kernel
set_option maxRecDepth 1000000 in
theorem gk_304_3 : (List.range' 3 3).all (gPchkC 304) = true := by decide +kernel
set_option maxRecDepth 1000000 in
theorem gk_304_6 : (List.range' 6 3).all (gPchkC 304) = true := by decide +kernel
theorem gk_304 : gPchkJ 304 = true := by
  unfold gPchkJ
  rw [show (gProg 304).length = 9 by decide +kernel, show List.range 9 = List.range' 0 3 ++ List.range' 3 3 ++ List.range' 6 3 by decide +kernel]
  simp only [List.all_append, gk_304_0, gk_304_3, gk_304_6, Bool.and_self]
set_option maxRecDepth 1000000 in
theorem gk_310_0 : (List.range' 0 3).all (gPchkC 310) = true := by decide +kernel
set_option maxRecDepth 1000000 in
theorem gk_310_3 : (List.range' 3 3).all (gPchkC 310) = true := by decide +kernel
set_option maxRecDepth 1000000 in
theorem gk_310_6 : (List.range' 6 2).all (gPchkC 310) = true := by decide +kernel
theorem gk_310 : gPchkJ 310 = true := by
  unfold gPchkJ
  rw [show (gProg 310).length = 8 by decide +kernel, show List.range 8 = List.range' 0 3 ++ List.range' 3 3 ++ List.range' 6 2 by decide +kernel]
  simp only [List.all_append, gk_310_0, gk_310_3, gk_310_6, Bool.and_self]
theorem gkr_0 : [0].all gPchkJ = true := by simp only [List.all_cons, List.all_nil, gk_0, Bool.and_self]
set_option maxRecDepth 1000000 in
theorem gkr_1 : [1, 2, 3, 4, 5].all gPchkJ = true := by decide +kernel
set_option maxRecDepth 1000000 in
theorem gkr_2 : [6, 7, 8, 9, 10, 11].all gPchkJ = true := by decide +kernel
set_option maxRecDepth 1000000 in
theorem gkr_3 : [12, 13, 14].all gPchkJ = true := by decide +kernel
set_option maxRecDepth 1000000 in
theorem gkr_4 : [15, 16].all gPchkJ = true := by decide +kernel
set_option maxRecDepth 1000000 in
theorem gkr_5 : [17, 18, 19].all gPchkJ = true := by decide +kernel
set_option maxRecDepth 1000000 in
theorem gkr_6 : [20, 21].all gPchkJ = true := by decide +kernel
set_option maxRecDepth 1000000 in
theorem gkr_7 : [22, 23].all gPchkJ = true := by decide +kernel
set_option maxRecDepth 1000000 in
theorem gkr_8 : [24].all gPchkJ = true := by decide +kernel
set_option maxRecDepth 1000000 in
theorem gkr_9 : [25, 26].all gPchkJ = true := by decide +kernel
set_option maxRecDepth 1000000 in
theorem gkr_10 : [27, 28].all gPchkJ = true := by decide +kernel
set_option maxRecDepth 1000000 in
theorem gkr_11 : [29, 30, 31, 32].all gPchkJ = true := by decide +kernel
set_option maxRecDepth 1000000 in
theorem gkr_12 : [33, 34].all gPchkJ = true := by decide +kernel
set_option maxRecDepth 1000000 in
theorem gkr_13 : [35, 36].all gPchkJ = true := by decide +kernel
set_option maxRecDepth 1000000 in
theorem gkr_14 : [37].all gPchkJ = true := by decide +kernel
set_option maxRecDepth 1000000 in
theorem gkr_15 : [38, 39, 40, 41].all gPchkJ = true := by decide +kernel
set_option maxRecDepth 1000000 in
theorem gkr_16 : [42].all gPchkJ = true := by decide +kernel
set_option maxRecDepth 1000000 in
theorem gkr_17 : [43].all gPchkJ = true := by decide +kernel
set_option maxRecDepth 1000000 in
theorem gkr_18 : [44, 45, 46].all gPchkJ = true := by decide +kernel
set_option maxRecDepth 1000000 in
theorem gkr_19 : [47, 48].all gPchkJ = true := by decide +kernel
set_option maxRecDepth 1000000 in
theorem gkr_20 : [49, 50, 51, 52, 53].all gPchkJ = true := by decide +kernel
set_option maxRecDepth 1000000 in
theorem gkr_21 : [54, 55, 56, 57].all gPchkJ = true := by decide +kernel
set_option maxRecDepth 1000000 in
theorem gkr_22 : [58, 59].all gPchkJ = true := by decide +kernel
set_option maxRecDepth 1000000 in
theorem gkr_23 : [60, 61, 62, 63].all gPchkJ = true := by decide +kernel
set_option maxRecDepth 1000000 in
theorem gkr_24 : [64, 65, 66, 67, 68].all gPchkJ = true := by decide +kernel
set_option maxRecDepth 1000000 in
theorem gkr_25 : [69, 70, 71].all gPchkJ = true := by decide +kernel
set_option maxRecDepth 1000000 in
theorem gkr_26 : [72, 73].all gPchkJ = true := by decide +kernel
set_option maxRecDepth 1000000 in
theorem gkr_27 : [74, 75].all gPchkJ = true := by decide +kernel
set_option maxRecDepth 1000000 in
theorem gkr_28 : [76, 77, 78].all gPchkJ = true := by decide +kernel
end
section
/-! THE CHECK, RUN, on (wip/gen/gen07.py). -/
set_option maxRecDepth 1000000 in
theorem gkr_29 : [79, 80].all gPchkJ = true := by decide +kernel
set_option maxRecDepth 1000000 in
theorem gkr_30 : [81, 82].all gPchkJ = true := by decide +kernel
set_option maxRecDepth 1000000 in
theorem gkr_31 : [83, 84].all gPchkJ = true := by decide +kernel
set_option maxRecDepth 1000000 in
theorem gkr_32 : [85, 86, 87].all gPchkJ = true := by decide +kernel
set_option maxRecDepth 1000000 in
theorem gkr_33 : [88, 89].all gPchkJ = true := by decide +kernel
set_option maxRecDepth 1000000 in
theorem gkr_34 : [90, 91].all gPchkJ = true := by decide +kernel
theorem gkr_35 : [92].all gPchkJ = true := by simp only [List.all_cons, List.all_nil, gk_92, Bool.and_self]
set_option maxRecDepth 1000000 in
theorem gkr_36 : [93, 94, 95, 96, 97].all gPchkJ = true := by decide +kernel
set_option maxRecDepth 1000000 in
theorem gkr_37 : [98, 99, 100, 101, 102, 103, 104, 105, 106].all gPchkJ = true := by decide +kernel
set_option maxRecDepth 1000000 in
theorem gkr_38 : [107, 108].all gPchkJ = true := by decide +kernel
set_option maxRecDepth 1000000 in
theorem gkr_39 : [109, 110, 111].all gPchkJ = true := by decide +kernel
set_option maxRecDepth 1000000 in
theorem gkr_40 : [112, 113, 114, 115].all gPchkJ = true := by decide +kernel
set_option maxRecDepth 1000000 in
theorem gkr_41 : [116].all gPchkJ = true := by decide +kernel
set_option maxRecDepth 1000000 in
theorem gkr_42 : [117, 118, 119].all gPchkJ = true := by decide +kernel
set_option maxRecDepth 1000000 in
theorem gkr_43 : [120, 121, 122, 123, 124, 125].all gPchkJ = true := by decide +kernel
set_option maxRecDepth 1000000 in
theorem gkr_44 : [126, 127].all gPchkJ = true := by decide +kernel
set_option maxRecDepth 1000000 in
theorem gkr_45 : [128, 129, 130, 131].all gPchkJ = true := by decide +kernel
set_option maxRecDepth 1000000 in
theorem gkr_46 : [132, 133, 134, 135].all gPchkJ = true := by decide +kernel
set_option maxRecDepth 1000000 in
theorem gkr_47 : [136].all gPchkJ = true := by decide +kernel
set_option maxRecDepth 1000000 in
theorem gkr_48 : [137, 138].all gPchkJ = true := by decide +kernel
set_option maxRecDepth 1000000 in
theorem gkr_49 : [139, 140, 141, 142].all gPchkJ = true := by decide +kernel
set_option maxRecDepth 1000000 in
theorem gkr_50 : [143, 144].all gPchkJ = true := by decide +kernel
set_option maxRecDepth 1000000 in
theorem gkr_51 : [145, 146].all gPchkJ = true := by decide +kernel
set_option maxRecDepth 1000000 in
theorem gkr_52 : [147, 148, 149].all gPchkJ = true := by decide +kernel
set_option maxRecDepth 1000000 in
theorem gkr_53 : [150, 151, 152].all gPchkJ = true := by decide +kernel
set_option maxRecDepth 1000000 in
theorem gkr_54 : [153, 154, 155].all gPchkJ = true := by decide +kernel
set_option maxRecDepth 1000000 in
theorem gkr_55 : [156, 157, 158, 159, 160, 161, 162].all gPchkJ = true := by decide +kernel
set_option maxRecDepth 1000000 in
theorem gkr_56 : [163, 164, 165].all gPchkJ = true := by decide +kernel
set_option maxRecDepth 1000000 in
theorem gkr_57 : [166, 167, 168, 169].all gPchkJ = true := by decide +kernel
set_option maxRecDepth 1000000 in
theorem gkr_58 : [170, 171, 172, 173].all gPchkJ = true := by decide +kernel
set_option maxRecDepth 1000000 in
theorem gkr_59 : [174, 175, 176, 177].all gPchkJ = true := by decide +kernel
set_option maxRecDepth 1000000 in
theorem gkr_60 : [178, 179, 180, 181].all gPchkJ = true := by decide +kernel
set_option maxRecDepth 1000000 in
theorem gkr_61 : [182, 183, 184, 185].all gPchkJ = true := by decide +kernel
set_option maxRecDepth 1000000 in
theorem gkr_62 : [186, 187, 188].all gPchkJ = true := by decide +kernel
set_option maxRecDepth 1000000 in
theorem gkr_63 : [189, 190].all gPchkJ = true := by decide +kernel
set_option maxRecDepth 1000000 in
theorem gkr_64 : [191, 192, 193, 194, 195].all gPchkJ = true := by decide +kernel
set_option maxRecDepth 1000000 in
theorem gkr_65 : [196, 197, 198, 199, 200, 201, 202, 203].all gPchkJ = true := by decide +kernel
theorem gkr_66 : [204].all gPchkJ = true := by simp only [List.all_cons, List.all_nil, gk_204, Bool.and_self]
set_option maxRecDepth 1000000 in
theorem gkr_67 : [205, 206, 207, 208, 209, 210, 211].all gPchkJ = true := by decide +kernel
set_option maxRecDepth 1000000 in
theorem gkr_68 : [212, 213].all gPchkJ = true := by decide +kernel
theorem gkr_69 : [214].all gPchkJ = true := by simp only [List.all_cons, List.all_nil, gk_214, Bool.and_self]
set_option maxRecDepth 1000000 in
theorem gkr_70 : [215, 216].all gPchkJ = true := by decide +kernel
set_option maxRecDepth 1000000 in
theorem gkr_71 : [217, 218, 219, 220].all gPchkJ = true := by decide +kernel
set_option maxRecDepth 1000000 in
theorem gkr_72 : [221].all gPchkJ = true := by decide +kernel
set_option maxRecDepth 1000000 in
theorem gkr_73 : [222, 223, 224].all gPchkJ = true := by decide +kernel
set_option maxRecDepth 1000000 in
theorem gkr_74 : [225, 226].all gPchkJ = true := by decide +kernel
theorem gkr_75 : [227].all gPchkJ = true := by simp only [List.all_cons, List.all_nil, gk_227, Bool.and_self]
theorem gkr_76 : [228].all gPchkJ = true := by simp only [List.all_cons, List.all_nil, gk_228, Bool.and_self]
set_option maxRecDepth 1000000 in
theorem gkr_77 : [229].all gPchkJ = true := by decide +kernel
end
section
/-! THE CHECK, RUN, on (wip/gen/gen07.py). -/
set_option maxRecDepth 1000000 in
theorem gkr_78 : [230, 231].all gPchkJ = true := by decide +kernel
theorem gkr_79 : [232].all gPchkJ = true := by simp only [List.all_cons, List.all_nil, gk_232, Bool.and_self]
set_option maxRecDepth 1000000 in
theorem gkr_80 : [233, 234].all gPchkJ = true := by decide +kernel
set_option maxRecDepth 1000000 in
theorem gkr_81 : [235].all gPchkJ = true := by decide +kernel
theorem gkr_82 : [236].all gPchkJ = true := by simp only [List.all_cons, List.all_nil, gk_236, Bool.and_self]
set_option maxRecDepth 1000000 in
theorem gkr_83 : [237].all gPchkJ = true := by decide +kernel
set_option maxRecDepth 1000000 in
theorem gkr_84 : [238].all gPchkJ = true := by decide +kernel
theorem gkr_85 : [239].all gPchkJ = true := by simp only [List.all_cons, List.all_nil, gk_239, Bool.and_self]
set_option maxRecDepth 1000000 in
theorem gkr_86 : [240, 241, 242].all gPchkJ = true := by decide +kernel
set_option maxRecDepth 1000000 in
theorem gkr_87 : [243, 244, 245, 246].all gPchkJ = true := by decide +kernel
set_option maxRecDepth 1000000 in
theorem gkr_88 : [247, 248, 249, 250, 251].all gPchkJ = true := by decide +kernel
set_option maxRecDepth 1000000 in
theorem gkr_89 : [252].all gPchkJ = true := by decide +kernel
set_option maxRecDepth 1000000 in
theorem gkr_90 : [253, 254, 255, 256].all gPchkJ = true := by decide +kernel
set_option maxRecDepth 1000000 in
theorem gkr_91 : [257, 258, 259].all gPchkJ = true := by decide +kernel
set_option maxRecDepth 1000000 in
theorem gkr_92 : [260, 261, 262].all gPchkJ = true := by decide +kernel
set_option maxRecDepth 1000000 in
theorem gkr_93 : [263, 264].all gPchkJ = true := by decide +kernel
set_option maxRecDepth 1000000 in
theorem gkr_94 : [265].all gPchkJ = true := by decide +kernel
set_option maxRecDepth 1000000 in
theorem gkr_95 : [266, 267, 268, 269].all gPchkJ = true := by decide +kernel
theorem gkr_96 : [270].all gPchkJ = true := by simp only [List.all_cons, List.all_nil, gk_270, Bool.and_self]
set_option maxRecDepth 1000000 in
theorem gkr_97 : [271, 272].all gPchkJ = true := by decide +kernel
set_option maxRecDepth 1000000 in
theorem gkr_98 : [273].all gPchkJ = true := by decide +kernel
theorem gkr_99 : [274].all gPchkJ = true := by simp only [List.all_cons, List.all_nil, gk_274, Bool.and_self]
set_option maxRecDepth 1000000 in
theorem gkr_100 : [275].all gPchkJ = true := by decide +kernel
set_option maxRecDepth 1000000 in
theorem gkr_101 : [276].all gPchkJ = true := by decide +kernel
set_option maxRecDepth 1000000 in
theorem gkr_102 : [277, 278].all gPchkJ = true := by decide +kernel
set_option maxRecDepth 1000000 in
theorem gkr_103 : [279, 280, 281, 282].all gPchkJ = true := by decide +kernel
set_option maxRecDepth 1000000 in
theorem gkr_104 : [283].all gPchkJ = true := by decide +kernel
set_option maxRecDepth 1000000 in
theorem gkr_105 : [284, 285].all gPchkJ = true := by decide +kernel
set_option maxRecDepth 1000000 in
theorem gkr_106 : [286].all gPchkJ = true := by decide +kernel
theorem gkr_107 : [287].all gPchkJ = true := by simp only [List.all_cons, List.all_nil, gk_287, Bool.and_self]
set_option maxRecDepth 1000000 in
theorem gkr_108 : [288].all gPchkJ = true := by decide +kernel
set_option maxRecDepth 1000000 in
theorem gkr_109 : [289, 290].all gPchkJ = true := by decide +kernel
set_option maxRecDepth 1000000 in
theorem gkr_110 : [291].all gPchkJ = true := by decide +kernel
set_option maxRecDepth 1000000 in
theorem gkr_111 : [292, 293, 294].all gPchkJ = true := by decide +kernel
set_option maxRecDepth 1000000 in
theorem gkr_112 : [295, 296, 297].all gPchkJ = true := by decide +kernel
set_option maxRecDepth 1000000 in
theorem gkr_113 : [298].all gPchkJ = true := by decide +kernel
set_option maxRecDepth 1000000 in
theorem gkr_114 : [299].all gPchkJ = true := by decide +kernel
set_option maxRecDepth 1000000 in
theorem gkr_115 : [300].all gPchkJ = true := by decide +kernel
set_option maxRecDepth 1000000 in
theorem gkr_116 : [301].all gPchkJ = true := by decide +kernel
set_option maxRecDepth 1000000 in
theorem gkr_117 : [302, 303].all gPchkJ = true := by decide +kernel
theorem gkr_118 : [304].all gPchkJ = true := by simp only [List.all_cons, List.all_nil, gk_304, Bool.and_self]
set_option maxRecDepth 1000000 in
theorem gkr_119 : [305, 306].all gPchkJ = true := by decide +kernel
set_option maxRecDepth 1000000 in
theorem gkr_120 : [307, 308].all gPchkJ = true := by decide +kernel
set_option maxRecDepth 1000000 in
theorem gkr_121 : [309].all gPchkJ = true := by decide +kernel
theorem gkr_122 : [310].all gPchkJ = true := by simp only [List.all_cons, List.all_nil, gk_310, Bool.and_self]
set_option maxRecDepth 1000000 in
theorem gkr_123 : [311, 312].all gPchkJ = true := by decide +kernel
set_option maxRecDepth 1000000 in
theorem gkr_124 : [313].all gPchkJ = true := by decide +kernel
set_option maxRecDepth 1000000 in
theorem gkr_125 : [314, 315, 316, 317, 318, 319, 320, 321].all gPchkJ = true := by decide +kernel
set_option maxRecDepth 1000000 in
theorem gkr_126 : [322, 323, 324, 325, 326, 327, 328, 329, 330, 331, 332].all gPchkJ = true := by decide +kernel
theorem gkr_all : (List.range 333).all gPchkJ = true := by
  rw [show List.range 333 = [0] ++ [1, 2, 3, 4, 5] ++ [6, 7, 8, 9, 10, 11] ++ [12, 13, 14] ++ [15, 16] ++ [17, 18, 19] ++ [20, 21] ++ [22, 23] ++ [24] ++ [25, 26] ++ [27, 28] ++ [29, 30, 31, 32] ++ [33, 34] ++ [35, 36] ++ [37] ++ [38, 39, 40, 41] ++ [42] ++ [43] ++ [44, 45, 46] ++ [47, 48] ++ [49, 50, 51, 52, 53] ++ [54, 55, 56, 57] ++ [58, 59] ++ [60, 61, 62, 63] ++ [64, 65, 66, 67, 68] ++ [69, 70, 71] ++ [72, 73] ++ [74, 75] ++ [76, 77, 78] ++ [79, 80] ++ [81, 82] ++ [83, 84] ++ [85, 86, 87] ++ [88, 89] ++ [90, 91] ++ [92] ++ [93, 94, 95, 96, 97] ++ [98, 99, 100, 101, 102, 103, 104, 105, 106] ++ [107, 108] ++ [109, 110, 111] ++ [112, 113, 114, 115] ++ [116] ++ [117, 118, 119] ++ [120, 121, 122, 123, 124, 125] ++ [126, 127] ++ [128, 129, 130, 131] ++ [132, 133, 134, 135] ++ [136] ++ [137, 138] ++ [139, 140, 141, 142] ++ [143, 144] ++ [145, 146] ++ [147, 148, 149] ++ [150, 151, 152] ++ [153, 154, 155] ++ [156, 157, 158, 159, 160, 161, 162] ++ [163, 164, 165] ++ [166, 167, 168, 169] ++ [170, 171, 172, 173] ++ [174, 175, 176, 177] ++ [178, 179, 180, 181] ++ [182, 183, 184, 185] ++ [186, 187, 188] ++ [189, 190] ++ [191, 192, 193, 194, 195] ++ [196, 197, 198, 199, 200, 201, 202, 203] ++ [204] ++ [205, 206, 207, 208, 209, 210, 211] ++ [212, 213] ++ [214] ++ [215, 216] ++ [217, 218, 219, 220] ++ [221] ++ [222, 223, 224] ++ [225, 226] ++ [227] ++ [228] ++ [229] ++ [230, 231] ++ [232] ++ [233, 234] ++ [235] ++ [236] ++ [237] ++ [238] ++ [239] ++ [240, 241, 242] ++ [243, 244, 245, 246] ++ [247, 248, 249, 250, 251] ++ [252] ++ [253, 254, 255, 256] ++ [257, 258, 259] ++ [260, 261, 262] ++ [263, 264] ++ [265] ++ [266, 267, 268, 269] ++ [270] ++ [271, 272] ++ [273] ++ [274] ++ [275] ++ [276] ++ [277, 278] ++ [279, 280, 281, 282] ++ [283] ++ [284, 285] ++ [286] ++ [287] ++ [288] ++ [289, 290] ++ [291] ++ [292, 293, 294] ++ [295, 296, 297] ++ [298] ++ [299] ++ [300] ++ [301] ++ [302, 303] ++ [304] ++ [305, 306] ++ [307, 308] ++ [309] ++ [310] ++ [311, 312] ++ [313] ++ [314, 315, 316, 317, 318, 319, 320, 321] ++ [322, 323, 324, 325, 326, 327, 328, 329, 330, 331, 332] by decide +kernel]
  simp only [List.all_append, gkr_0, gkr_1, gkr_2, gkr_3, gkr_4, gkr_5, gkr_6, gkr_7, gkr_8, gkr_9, gkr_10, gkr_11, gkr_12, gkr_13, gkr_14, gkr_15, gkr_16, gkr_17, gkr_18, gkr_19, gkr_20, gkr_21, gkr_22, gkr_23, gkr_24, gkr_25, gkr_26, gkr_27, gkr_28, gkr_29, gkr_30, gkr_31, gkr_32, gkr_33, gkr_34, gkr_35, gkr_36, gkr_37, gkr_38, gkr_39, gkr_40, gkr_41, gkr_42, gkr_43, gkr_44, gkr_45, gkr_46, gkr_47, gkr_48, gkr_49, gkr_50, gkr_51, gkr_52, gkr_53, gkr_54, gkr_55, gkr_56, gkr_57, gkr_58, gkr_59, gkr_60, gkr_61, gkr_62, gkr_63, gkr_64, gkr_65, gkr_66, gkr_67, gkr_68, gkr_69, gkr_70, gkr_71, gkr_72, gkr_73, gkr_74, gkr_75, gkr_76, gkr_77, gkr_78, gkr_79, gkr_80, gkr_81, gkr_82, gkr_83, gkr_84, gkr_85, gkr_86, gkr_87, gkr_88, gkr_89, gkr_90, gkr_91, gkr_92, gkr_93, gkr_94, gkr_95, gkr_96, gkr_97, gkr_98, gkr_99, gkr_100, gkr_101, gkr_102, gkr_103, gkr_104, gkr_105, gkr_106, gkr_107, gkr_108, gkr_109, gkr_110, gkr_111, gkr_112, gkr_113, gkr_114, gkr_115, gkr_116, gkr_117, gkr_118, gkr_119, gkr_120, gkr_121, gkr_122, gkr_123, gkr_124, gkr_125, gkr_126, Bool.and_self]
end
section
theorem gAtt_chk {j pc : Nat} {e : gE} (h : gAtt j pc = some e) : e.1 = pc ∧ gchk j e = true := by
  unfold gAtt at h
  have h1 : e.1 = pc := Nat.eq_of_beq_eq_true (List.find?_some (p := fun (x : gE) => Nat.beq x.1 pc) h)
  have h2 := List.mem_of_find?_eq_some h
  refine ⟨h1, ?_⟩
  by_cases hj : j < 333
  · have h3 := List.all_eq_true.mp gkr_all j (List.mem_range.mpr hj)
    unfold gPchkJ at h3
    by_cases hq : pc / 32 < (gProg j).length
    · have h4 := List.all_eq_true.mp h3 (pc / 32) (List.mem_range.mpr hq)
      exact List.all_eq_true.mp h4 e h2
    · rw [List.getD_eq_getElem?_getD, List.getElem?_eq_none (by omega)] at h2
      exact absurd h2 List.not_mem_nil
  · have h5 : gProg j = [] := by
      unfold gProg
      by_cases hg : j / 16 < gPgs.length
      · have hl : gPgs.length = 21 := by decide +kernel
        have h6 : j / 16 = 20 := by omega
        rw [h6]
        have h7 : (gPgs.getD 20 []).length = 13 := by decide +kernel
        rw [List.getD_eq_getElem?_getD, List.getElem?_eq_none (by omega)]
        rfl
      · rw [List.getD_eq_getElem?_getD (l := gPgs), List.getElem?_eq_none (by omega)]
        rfl
    rw [h5] at h2
    rw [List.getD_eq_getElem?_getD, List.getElem?_eq_none (by simp)] at h2
    exact absurd h2 List.not_mem_nil
end
section
/-! WHAT IS KNOWN OF THE CLASSES AND CONSTANTS through a run (in place of gKn, gKs of part 02: of String only its name and fields are known). -/
def gKm (G : gG) (U : State) : Prop := (∀ k, k < 14 → U.vm.findClass (gCn k) = some (G.2.2.2.1 k)) ∧ (∀ k, k < 13 → ClassAt U (gCn k) (G.2.2.2.1 k)) ∧ ∀ k, k < 14 → ∀ f, f < gN k → ∃ (cf : ClassId) (kf : Class) (fi : Nat) (fd : Field), U.fieldFound? (gT k f).1 (gT k f).2.1 (gT k f).2.2.1 = some (cf, kf, fi, fd) ∧ fd.isStatic = false ∧ fd.slot = G.2.2.2.2.1 k f
theorem gKm.moved {G : gG} {u U : State} (hvm : u.vm.Alike U.vm) (h : gKm G u) : gKm G U := by
  refine ⟨fun k hk => by rw [hvm.findClass]; exact h.1 k hk, fun k hk => classAt_moved hvm (h.2.1 k hk), fun k hk f hf => ?_⟩
  obtain ⟨cf, kf, fi, fd, h1, h2, h3⟩ := h.2.2 k hk f hf
  obtain ⟨kf', hi', -⟩ := State.fieldFound?_setVm (s := u) hvm h1
  exact ⟨cf, kf', fi, fd, by simpa only [State.fieldFound?, State.vm_setVm] using hi', h2, h3⟩
def gKz (G : gG) (U : State) (H : Heap) : Prop := gTb U ∧ gKm G U ∧ gCs G U H
theorem gKz.warm {G : gG} {s U : State} {H : Heap} (hW : s.WarmedH U.vm) (h : gKz G s H) : gKz G U H := ⟨h.1.warm hW, h.2.1.moved hW.alike, h.2.2.warm hW⟩
theorem gKz.kept {G : gG} {U : State} {H H1 : Heap} (h : gKz G U H) (hq : ∀ a : Nat, a < H.size → ¬ G.2.1 ≤ a → H1[a]? = H[a]?) : gKz G U H1 := ⟨h.1, h.2.1, h.2.2.kept hq⟩
end
section
/-! EACH INSTRUCTION of the pure run is a step of the machine (printed by wip/gen/gen08.py). -/
def gLv (G : gG) (lv : gL) : gL := lv.map (fun q => (q.1, grv G q.2))
theorem gLk_mem {k : Nat} {v : Value} : ∀ lv : gL, gLk k lv = some v → (k, v) ∈ lv := by
  intro lv
  induction lv with
  | nil => intro h; cases h
  | cons q t ih =>
    intro h
    unfold gLk at h
    cases hb : Nat.beq q.1 k with
    | true =>
      rw [hb] at h
      have h1 := Nat.eq_of_beq_eq_true hb
      have h2 : q.2 = v := Option.some.inj h
      rw [← h1, ← h2]
      exact List.mem_cons_self
    | false => rw [hb] at h; exact List.mem_cons_of_mem _ (ih h)
theorem gLk_at {G : gG} {ls : Array Slot} {nL : Nat} {lv : gL} {k : Nat} {v : Value} (hl : lv_has ls nL (gLv G lv)) (h : gLk k lv = some v) : ls[k]? = some (.val (grv G v)) :=
  hl.2.2 (k, grv G v) (List.mem_map.mpr ⟨(k, v), gLk_mem lv h, rfl⟩)
theorem gLk_idx {G : gG} {lv : gL} {k : Nat} {v : Value} (h : gLk k lv = some v) : ∃ i : Nat, (gLv G lv)[i]? = some (k, grv G v) :=
  List.getElem?_of_mem (List.mem_map.mpr ⟨(k, v), gLk_mem lv h, rfl⟩)
theorem gSt1_map (G : gG) (lv : gL) (i : Nat) (v : Value) : (i, grv G v) :: (gLv G lv).filter (fun q => !(q.1 == i) && !(q.1 + 1 == i && q.2.category == 2)) = gLv G (gSt1 lv i v) := by
  unfold gSt1 gLv
  rw [List.map_cons, List.filter_map]
  congr 2
  apply List.filter_congr
  intro q _
  simp [grv_cat]
theorem gSt2_map (G : gG) (lv : gL) (i : Nat) (v : Value) : (i, grv G v) :: (gLv G lv).filter (fun q => !(q.1 == i) && (!(q.1 == i + 1) && !(q.1 + 1 == i && q.2.category == 2))) = gLv G (gSt2 lv i v) := by
  unfold gSt2 gLv
  rw [List.map_cons, List.filter_map]
  congr 2
  apply List.filter_congr
  intro q _
  simp [grv_cat]
theorem gsz_set {lh : gH} {i : Nat} {c d : gC} (h : lh[i]? = some c) (hz : gsz1 d = gsz1 c) : gsz (lh.set i d) = gsz lh := by
  unfold gsz
  induction lh generalizing i with
  | nil => simp at h
  | cons x t ih =>
    cases i with
    | zero =>
      have hx : x = c := by simpa using h
      subst hx
      simp [hz]
    | succ i =>
      have h2 : t[i]? = some c := by simpa using h
      simp only [List.set_cons_succ, List.map_cons, List.sum_cons]
      rw [ih h2]
theorem gsz_push (lh : gH) (c : gC) : gsz (lh ++ [c]) = gsz lh + gsz1 c := by
  unfold gsz
  rw [List.map_append, List.sum_append]
  simp
theorem gup_at (G : gG) (f : Nat → Value) (k : Nat) (v : Value) (j : Nat) : grv G (gup f k v j) = updV (fun q => grv G (f q)) k (grv G v) j := by
  unfold gup updV
  cases hb : Nat.beq j k with
  | true => rw [if_pos (Nat.eq_of_beq_eq_true hb)]; rfl
  | false => rw [if_neg (Nat.ne_of_beq_eq_false hb)]; rfl
theorem gFit_ok {G : gG} {ty : FieldType} {w : Value} (h : gFit ty w = true) : narrow ty (grv G w) = grv G w ∧ fits ty (grv G w) = true := by
  unfold gFit at h
  rw [Bool.and_eq_true] at h
  obtain ⟨h1, h2⟩ := h
  have h1 := of_decide_eq_true h1
  cases w with
  | ref i => cases ty <;> first | exact ⟨rfl, rfl⟩ | exact absurd h2 (by simp [fits])
  | retAddr i => cases ty <;> exact absurd h2 (by simp [fits])
  | _ => exact ⟨h1, h2⟩
theorem gIn_ok {x : Int32} {n z : Nat} (h : gIn x n = true) (hz : n ≤ z) : ¬ (x < 0 ∨ z ≤ x.toNatClampNeg) ∧ x.toNatClampNeg < n := by
  unfold gIn at h
  rw [Bool.and_eq_true] at h
  have h2 : x.toNatClampNeg < n := Nat.blt_eq.mp h.2
  refine ⟨fun q => ?_, h2⟩
  rcases q with q | q
  · have h1 := h.1
    rw [decide_eq_true q] at h1
    cases h1
  · omega
/-- how a method ends: what stands on its stack, at which instruction -/
def gEnd (cc : ByteArray) (rt : Option FieldType) (o : gO) : Prop :=
  (∃ (x : Int32) (ty : FieldType), rt = some ty ∧ o.2.2 = [.int x] ∧ narrow ty (.int x) = .int x ∧ decode cc o.2.1 = .ok (.ireturn, 1)) ∨
  (∃ x : Int64, rt = some .long ∧ o.2.2 = [.long x] ∧ decode cc o.2.1 = .ok (.lreturn, 1)) ∨
  (∃ (w : Value) (ty : FieldType), rt = some ty ∧ ((∃ n, ty = .object n) ∨ ∃ t, ty = .array t) ∧ o.2.2 = [w] ∧ (w = .null ∨ ∃ i, w = .ref i) ∧ decode cc o.2.1 = .ok (.areturn, 1)) ∨
  (rt = none ∧ o.2.2 = [] ∧ decode cc o.2.1 = .ok (.return_, 1))
/-- what stands through a method's run -/
def gCx (G : gG) (p : Program) (R : Room) (s : State) (m : MethodId) (meth : Method) (c : Code) (own name : String) (cc : ByteArray) (nL L0 S0 d : Nat) (o : gO) : Prop :=
  p.tables.exec = Jvm.exec ∧ c.code = cc ∧ c.maxLocals = nL ∧ s.vm.findClass own = some m.cls ∧ gKz G s s.heap ∧ G.1 = 7 ∧ (name = "<init>" → meth.name = "<init>") ∧ d ≤ R.frames ∧ 100 * d ≤ R.locals ∧ o.1.length ≤ R.cells + L0 ∧ gsz o.1 ≤ R.slots + S0
/-- from here the run ends at o; where the machine goes on well from o, it goes on well from here -/
def gOk (G : gG) (l : Launch) (p : Program) (e : Env) (R : Room) (s : State) (m : MethodId) (args : Array Value) (below : List Frame) (meth : Method) (c : Code) (Q : State → Prop) (own name : String) (cc : ByteArray) (d nL L0 S0 : Nat) (rt : Option FieldType) (o : gO) (pc : Nat) (lv : gL) (st : List Value) (lh : gH) : Prop :=
  (gEnd cc rt o ∧ lh.length ≤ o.1.length ∧ gsz lh ≤ gsz o.1) ∧
  (gCx G p R s m meth c own name cc nL L0 S0 d o → (∀ (H : Heap) (locs : List Loc) (cells slots : Nat) (ls : Array Slot), gR G s o.1 H → va_S (fun q => G.2.1 ≤ q) s.heap H locs → cells + L0 = o.1.length → slots + S0 = gsz o.1 → W p l e R s m args below meth c H locs cells slots Q (F0 m o.2.1 ls (o.2.2.map (grv G)))) →
    ∀ (H : Heap) (locs : List Loc) (cells slots : Nat) (ls : Array Slot), gR G s lh H → va_S (fun q => G.2.1 ≤ q) s.heap H locs → lv_has ls nL (gLv G lv) → cells + L0 = lh.length → slots + S0 = gsz lh → W p l e R s m args below meth c H locs cells slots Q (F0 m pc ls (st.map (grv G))))
section GROWS
variable {G : gG} {l : Launch} {p : Program} {e : Env} {R : Room} {s : State} {m : MethodId} {args : Array Value} {below : List Frame} {meth : Method} {c : Code} {Q : State → Prop} {own name : String} {cc : ByteArray} {nL L0 S0 pc a b d : Nat} {rt : Option FieldType} {o : gO} {v : Int} {ts : List Nat} {lv : gL} {st : List Value} {lh : gH} {K : Nat → gL → List Value → gH → Option gO} {C : Nat → List Value → gH → Option gO}
theorem gw_iload_n (hK : ∀ pc lv st lh, K pc lv st lh = some o → gOk G l p e R s m args below meth c Q own name cc d nL L0 S0 rt o pc lv st lh) {k : Fin 4} (hdg : decode cc pc = .ok (.iload_n k, 1)) (h : gI_iload K pc lv st lh (k : Nat) 1 = some o) : gOk G l p e R s m args below meth c Q own name cc d nL L0 S0 rt o pc lv st lh := by
  unfold gI_iload at h
  split at h
  · rename_i hv
    refine ⟨(hK _ _ _ _ h).1, fun X hE H locs cells slots ls hR hS hl h1 h2 => ?_⟩
    obtain ⟨hx, hb, hml, hown, hks, hG, hnm, hfr, hlo, hcc, hss⟩ := id X
    refine lv_iload_n hx hb hdg rfl (gLk_at hl hv) ?_
    exact (hK _ _ _ _ h).2 X hE _ _ _ _ _ hR hS hl h1 h2
  all_goals cases h
theorem gw_iload (hK : ∀ pc lv st lh, K pc lv st lh = some o → gOk G l p e R s m args below meth c Q own name cc d nL L0 S0 rt o pc lv st lh) {k : Nat} (hdg : decode cc pc = .ok (.iload k, 2)) (h : gI_iload K pc lv st lh k 2 = some o) : gOk G l p e R s m args below meth c Q own name cc d nL L0 S0 rt o pc lv st lh := by
  unfold gI_iload at h
  split at h
  · rename_i hv
    refine ⟨(hK _ _ _ _ h).1, fun X hE H locs cells slots ls hR hS hl h1 h2 => ?_⟩
    obtain ⟨hx, hb, hml, hown, hks, hG, hnm, hfr, hlo, hcc, hss⟩ := id X
    refine lv_iload hx hb hdg (gLk_at hl hv) ?_
    exact (hK _ _ _ _ h).2 X hE _ _ _ _ _ hR hS hl h1 h2
  all_goals cases h
theorem gw_lload_n (hK : ∀ pc lv st lh, K pc lv st lh = some o → gOk G l p e R s m args below meth c Q own name cc d nL L0 S0 rt o pc lv st lh) {k : Fin 4} (hdg : decode cc pc = .ok (.lload_n k, 1)) (h : gI_lload K pc lv st lh (k : Nat) 1 = some o) : gOk G l p e R s m args below meth c Q own name cc d nL L0 S0 rt o pc lv st lh := by
  unfold gI_lload at h
  split at h
  · rename_i hv
    refine ⟨(hK _ _ _ _ h).1, fun X hE H locs cells slots ls hR hS hl h1 h2 => ?_⟩
    obtain ⟨hx, hb, hml, hown, hks, hG, hnm, hfr, hlo, hcc, hss⟩ := id X
    refine lv_lload_n hx hb hdg rfl (gLk_at hl hv) ?_
    exact (hK _ _ _ _ h).2 X hE _ _ _ _ _ hR hS hl h1 h2
  all_goals cases h
theorem gw_lload (hK : ∀ pc lv st lh, K pc lv st lh = some o → gOk G l p e R s m args below meth c Q own name cc d nL L0 S0 rt o pc lv st lh) {k : Nat} (hdg : decode cc pc = .ok (.lload k, 2)) (h : gI_lload K pc lv st lh k 2 = some o) : gOk G l p e R s m args below meth c Q own name cc d nL L0 S0 rt o pc lv st lh := by
  unfold gI_lload at h
  split at h
  · rename_i hv
    refine ⟨(hK _ _ _ _ h).1, fun X hE H locs cells slots ls hR hS hl h1 h2 => ?_⟩
    obtain ⟨hx, hb, hml, hown, hks, hG, hnm, hfr, hlo, hcc, hss⟩ := id X
    refine lv_lload hx hb hdg (gLk_at hl hv) ?_
    exact (hK _ _ _ _ h).2 X hE _ _ _ _ _ hR hS hl h1 h2
  all_goals cases h
theorem gw_aload_n (hK : ∀ pc lv st lh, K pc lv st lh = some o → gOk G l p e R s m args below meth c Q own name cc d nL L0 S0 rt o pc lv st lh) {k : Fin 4} (hdg : decode cc pc = .ok (.aload_n k, 1)) (h : gI_aload K pc lv st lh (k : Nat) 1 = some o) : gOk G l p e R s m args below meth c Q own name cc d nL L0 S0 rt o pc lv st lh := by
  unfold gI_aload at h
  split at h
  · rename_i hv
    refine ⟨(hK _ _ _ _ h).1, fun X hE H locs cells slots ls hR hS hl h1 h2 => ?_⟩
    obtain ⟨hx, hb, hml, hown, hks, hG, hnm, hfr, hlo, hcc, hss⟩ := id X
    refine lv_aload_n hx hb hdg rfl (gLk_at hl hv) ?_
    exact (hK _ _ _ _ h).2 X hE _ _ _ _ _ hR hS hl h1 h2
  · rename_i hv
    refine ⟨(hK _ _ _ _ h).1, fun X hE H locs cells slots ls hR hS hl h1 h2 => ?_⟩
    obtain ⟨hx, hb, hml, hown, hks, hG, hnm, hfr, hlo, hcc, hss⟩ := id X
    refine lv_aload_nN hx hb hdg rfl (gLk_at hl hv) ?_
    exact (hK _ _ _ _ h).2 X hE _ _ _ _ _ hR hS hl h1 h2
  all_goals cases h
theorem gw_aload (hK : ∀ pc lv st lh, K pc lv st lh = some o → gOk G l p e R s m args below meth c Q own name cc d nL L0 S0 rt o pc lv st lh) {k : Nat} (hdg : decode cc pc = .ok (.aload k, 2)) (h : gI_aload K pc lv st lh k 2 = some o) : gOk G l p e R s m args below meth c Q own name cc d nL L0 S0 rt o pc lv st lh := by
  unfold gI_aload at h
  split at h
  · rename_i hv
    refine ⟨(hK _ _ _ _ h).1, fun X hE H locs cells slots ls hR hS hl h1 h2 => ?_⟩
    obtain ⟨hx, hb, hml, hown, hks, hG, hnm, hfr, hlo, hcc, hss⟩ := id X
    refine lv_aload hx hb hdg (gLk_at hl hv) ?_
    exact (hK _ _ _ _ h).2 X hE _ _ _ _ _ hR hS hl h1 h2
  · rename_i hv
    refine ⟨(hK _ _ _ _ h).1, fun X hE H locs cells slots ls hR hS hl h1 h2 => ?_⟩
    obtain ⟨hx, hb, hml, hown, hks, hG, hnm, hfr, hlo, hcc, hss⟩ := id X
    refine lv_aloadN hx hb hdg (gLk_at hl hv) ?_
    exact (hK _ _ _ _ h).2 X hE _ _ _ _ _ hR hS hl h1 h2
  all_goals cases h
theorem gw_istore_n (hK : ∀ pc lv st lh, K pc lv st lh = some o → gOk G l p e R s m args below meth c Q own name cc d nL L0 S0 rt o pc lv st lh) {k : Fin 4} (hdg : decode cc pc = .ok (.istore_n k, 1)) (hk : (k : Nat) < nL) (h : gI_istore K pc lv st lh (k : Nat) 1 = some o) : gOk G l p e R s m args below meth c Q own name cc d nL L0 S0 rt o pc lv st lh := by
  unfold gI_istore at h
  split at h
  · rename_i x r
    refine ⟨(hK _ _ _ _ h).1, fun X hE H locs cells slots ls hR hS hl h1 h2 => ?_⟩
    obtain ⟨hx, hb, hml, hown, hks, hG, hnm, hfr, hlo, hcc, hss⟩ := id X
    refine lv_istore_n hx hb hdg rfl hl hk (gSt1_map G lv (k : Nat) (.int x)) (fun ls hl => ?_)
    exact (hK _ _ _ _ h).2 X hE _ _ _ _ _ hR hS hl h1 h2
  all_goals cases h
theorem gw_istore (hK : ∀ pc lv st lh, K pc lv st lh = some o → gOk G l p e R s m args below meth c Q own name cc d nL L0 S0 rt o pc lv st lh) {k : Nat} (hdg : decode cc pc = .ok (.istore k, 2)) (hk : k < nL) (h : gI_istore K pc lv st lh k 2 = some o) : gOk G l p e R s m args below meth c Q own name cc d nL L0 S0 rt o pc lv st lh := by
  unfold gI_istore at h
  split at h
  · rename_i x r
    refine ⟨(hK _ _ _ _ h).1, fun X hE H locs cells slots ls hR hS hl h1 h2 => ?_⟩
    obtain ⟨hx, hb, hml, hown, hks, hG, hnm, hfr, hlo, hcc, hss⟩ := id X
    refine lv_istore hx hb hdg hl hk (gSt1_map G lv k (.int x)) (fun ls hl => ?_)
    exact (hK _ _ _ _ h).2 X hE _ _ _ _ _ hR hS hl h1 h2
  all_goals cases h
theorem gw_astore_n (hK : ∀ pc lv st lh, K pc lv st lh = some o → gOk G l p e R s m args below meth c Q own name cc d nL L0 S0 rt o pc lv st lh) {k : Fin 4} (hdg : decode cc pc = .ok (.astore_n k, 1)) (hk : (k : Nat) < nL) (h : gI_astore K pc lv st lh (k : Nat) 1 = some o) : gOk G l p e R s m args below meth c Q own name cc d nL L0 S0 rt o pc lv st lh := by
  unfold gI_astore at h
  split at h
  · rename_i x r
    refine ⟨(hK _ _ _ _ h).1, fun X hE H locs cells slots ls hR hS hl h1 h2 => ?_⟩
    obtain ⟨hx, hb, hml, hown, hks, hG, hnm, hfr, hlo, hcc, hss⟩ := id X
    refine lv_astore_n hx hb hdg rfl hl hk (gSt1_map G lv (k : Nat) (.ref x)) (fun ls hl => ?_)
    exact (hK _ _ _ _ h).2 X hE _ _ _ _ _ hR hS hl h1 h2
  · rename_i r
    refine ⟨(hK _ _ _ _ h).1, fun X hE H locs cells slots ls hR hS hl h1 h2 => ?_⟩
    obtain ⟨hx, hb, hml, hown, hks, hG, hnm, hfr, hlo, hcc, hss⟩ := id X
    refine lv_astore_nN hx hb hdg rfl hl hk (gSt1_map G lv (k : Nat) .null) (fun ls hl => ?_)
    exact (hK _ _ _ _ h).2 X hE _ _ _ _ _ hR hS hl h1 h2
  all_goals cases h
theorem gw_astore (hK : ∀ pc lv st lh, K pc lv st lh = some o → gOk G l p e R s m args below meth c Q own name cc d nL L0 S0 rt o pc lv st lh) {k : Nat} (hdg : decode cc pc = .ok (.astore k, 2)) (hk : k < nL) (h : gI_astore K pc lv st lh k 2 = some o) : gOk G l p e R s m args below meth c Q own name cc d nL L0 S0 rt o pc lv st lh := by
  unfold gI_astore at h
  split at h
  · rename_i x r
    refine ⟨(hK _ _ _ _ h).1, fun X hE H locs cells slots ls hR hS hl h1 h2 => ?_⟩
    obtain ⟨hx, hb, hml, hown, hks, hG, hnm, hfr, hlo, hcc, hss⟩ := id X
    refine lv_astore hx hb hdg hl hk (gSt1_map G lv k (.ref x)) (fun ls hl => ?_)
    exact (hK _ _ _ _ h).2 X hE _ _ _ _ _ hR hS hl h1 h2
  · rename_i r
    refine ⟨(hK _ _ _ _ h).1, fun X hE H locs cells slots ls hR hS hl h1 h2 => ?_⟩
    obtain ⟨hx, hb, hml, hown, hks, hG, hnm, hfr, hlo, hcc, hss⟩ := id X
    refine lv_astoreN hx hb hdg hl hk (gSt1_map G lv k .null) (fun ls hl => ?_)
    exact (hK _ _ _ _ h).2 X hE _ _ _ _ _ hR hS hl h1 h2
  all_goals cases h
theorem gw_lstore_n (hK : ∀ pc lv st lh, K pc lv st lh = some o → gOk G l p e R s m args below meth c Q own name cc d nL L0 S0 rt o pc lv st lh) {k : Fin 4} (hdg : decode cc pc = .ok (.lstore_n k, 1)) (hk : (k : Nat) + 1 < nL) (h : gI_lstore K pc lv st lh (k : Nat) 1 = some o) : gOk G l p e R s m args below meth c Q own name cc d nL L0 S0 rt o pc lv st lh := by
  unfold gI_lstore at h
  split at h
  · rename_i x r
    refine ⟨(hK _ _ _ _ h).1, fun X hE H locs cells slots ls hR hS hl h1 h2 => ?_⟩
    obtain ⟨hx, hb, hml, hown, hks, hG, hnm, hfr, hlo, hcc, hss⟩ := id X
    refine lv_lstore_n hx hb hdg rfl hl hk (gSt2_map G lv (k : Nat) (.long x)) (fun ls hl => ?_)
    exact (hK _ _ _ _ h).2 X hE _ _ _ _ _ hR hS hl h1 h2
  all_goals cases h
theorem gw_lstore (hK : ∀ pc lv st lh, K pc lv st lh = some o → gOk G l p e R s m args below meth c Q own name cc d nL L0 S0 rt o pc lv st lh) {k : Nat} (hdg : decode cc pc = .ok (.lstore k, 2)) (hk : k + 1 < nL) (h : gI_lstore K pc lv st lh k 2 = some o) : gOk G l p e R s m args below meth c Q own name cc d nL L0 S0 rt o pc lv st lh := by
  unfold gI_lstore at h
  split at h
  · rename_i x r
    refine ⟨(hK _ _ _ _ h).1, fun X hE H locs cells slots ls hR hS hl h1 h2 => ?_⟩
    obtain ⟨hx, hb, hml, hown, hks, hG, hnm, hfr, hlo, hcc, hss⟩ := id X
    refine lv_lstore hx hb hdg hl hk (gSt2_map G lv k (.long x)) (fun ls hl => ?_)
    exact (hK _ _ _ _ h).2 X hE _ _ _ _ _ hR hS hl h1 h2
  all_goals cases h
theorem gw_iinc (hK : ∀ pc lv st lh, K pc lv st lh = some o → gOk G l p e R s m args below meth c Q own name cc d nL L0 S0 rt o pc lv st lh) {k : Nat} {n : Int} (hdg : decode cc pc = .ok (.iinc k n, 3)) (hk : k < nL) (h : gI_iinc K pc lv st lh k n = some o) : gOk G l p e R s m args below meth c Q own name cc d nL L0 S0 rt o pc lv st lh := by
  unfold gI_iinc at h
  split at h
  · rename_i x hv
    refine ⟨(hK _ _ _ _ h).1, fun X hE H locs cells slots ls hR hS hl h1 h2 => ?_⟩
    obtain ⟨hx, hb, hml, hown, hks, hG, hnm, hfr, hlo, hcc, hss⟩ := id X
    obtain ⟨i, hi⟩ := gLk_idx (G := G) hv
    refine lv_iinc (v := x + Int32.ofInt n) hx hb hdg hl hi rfl hk (gSt1_map G lv k (.int (x + Int32.ofInt n))) (fun ls hl => ?_)
    exact (hK _ _ _ _ h).2 X hE _ _ _ _ _ hR hS hl h1 h2
  all_goals cases h
theorem gw_iconst (hK : ∀ pc lv st lh, K pc lv st lh = some o → gOk G l p e R s m args below meth c Q own name cc d nL L0 S0 rt o pc lv st lh) {n : Int} (hdg : decode cc pc = .ok (.iconst n, 1)) (h : gI_int K pc lv st lh (Int32.ofInt n) 1 = some o) : gOk G l p e R s m args below meth c Q own name cc d nL L0 S0 rt o pc lv st lh := by
  refine ⟨(hK _ _ _ _ h).1, fun X hE H locs cells slots ls hR hS hl h1 h2 => ?_⟩
  obtain ⟨hx, hb, hml, hown, hks, hG, hnm, hfr, hlo, hcc, hss⟩ := id X
  refine lv_iconst hx hb hdg rfl ?_
  exact (hK _ _ _ _ h).2 X hE _ _ _ _ _ hR hS hl h1 h2
theorem gw_bipush (hK : ∀ pc lv st lh, K pc lv st lh = some o → gOk G l p e R s m args below meth c Q own name cc d nL L0 S0 rt o pc lv st lh) {n : Int} (hdg : decode cc pc = .ok (.bipush n, 2)) (h : gI_int K pc lv st lh (Int8.ofInt n).toInt32 2 = some o) : gOk G l p e R s m args below meth c Q own name cc d nL L0 S0 rt o pc lv st lh := by
  refine ⟨(hK _ _ _ _ h).1, fun X hE H locs cells slots ls hR hS hl h1 h2 => ?_⟩
  obtain ⟨hx, hb, hml, hown, hks, hG, hnm, hfr, hlo, hcc, hss⟩ := id X
  refine lv_bipush hx hb hdg rfl ?_
  exact (hK _ _ _ _ h).2 X hE _ _ _ _ _ hR hS hl h1 h2
theorem gw_sipush (hK : ∀ pc lv st lh, K pc lv st lh = some o → gOk G l p e R s m args below meth c Q own name cc d nL L0 S0 rt o pc lv st lh) {n : Int} (hdg : decode cc pc = .ok (.sipush n, 3)) (h : gI_int K pc lv st lh (Int16.ofInt n).toInt32 3 = some o) : gOk G l p e R s m args below meth c Q own name cc d nL L0 S0 rt o pc lv st lh := by
  refine ⟨(hK _ _ _ _ h).1, fun X hE H locs cells slots ls hR hS hl h1 h2 => ?_⟩
  obtain ⟨hx, hb, hml, hown, hks, hG, hnm, hfr, hlo, hcc, hss⟩ := id X
  refine lv_sipush hx hb hdg rfl ?_
  exact (hK _ _ _ _ h).2 X hE _ _ _ _ _ hR hS hl h1 h2
theorem gw_lconst (hK : ∀ pc lv st lh, K pc lv st lh = some o → gOk G l p e R s m args below meth c Q own name cc d nL L0 S0 rt o pc lv st lh) {n : Fin 2} (hdg : decode cc pc = .ok (.lconst n, 1)) (h : gI_long K pc lv st lh (Int64.ofNat (n : Nat)) 1 = some o) : gOk G l p e R s m args below meth c Q own name cc d nL L0 S0 rt o pc lv st lh := by
  refine ⟨(hK _ _ _ _ h).1, fun X hE H locs cells slots ls hR hS hl h1 h2 => ?_⟩
  obtain ⟨hx, hb, hml, hown, hks, hG, hnm, hfr, hlo, hcc, hss⟩ := id X
  refine lv_lconst hx hb hdg rfl ?_
  exact (hK _ _ _ _ h).2 X hE _ _ _ _ _ hR hS hl h1 h2
theorem gw_null (hK : ∀ pc lv st lh, K pc lv st lh = some o → gOk G l p e R s m args below meth c Q own name cc d nL L0 S0 rt o pc lv st lh)  (hdg : decode cc pc = .ok (.aconst_null, 1)) (h : K (pc + 1) lv (.null :: st) lh = some o) : gOk G l p e R s m args below meth c Q own name cc d nL L0 S0 rt o pc lv st lh := by
  refine ⟨(hK _ _ _ _ h).1, fun X hE H locs cells slots ls hR hS hl h1 h2 => ?_⟩
  obtain ⟨hx, hb, hml, hown, hks, hG, hnm, hfr, hlo, hcc, hss⟩ := id X
  refine lv_null hx hb hdg ?_
  exact (hK _ _ _ _ h).2 X hE _ _ _ _ _ hR hS hl h1 h2
theorem gw_ldc (hK : ∀ pc lv st lh, K pc lv st lh = some o → gOk G l p e R s m args below meth c Q own name cc d nL L0 S0 rt o pc lv st lh) {n : Nat} (hw : Cond.constant own n (Int32.ofInt v) ∈ gTB) (hdg : decode cc pc = .ok (.ldc n, 2)) (h : gI_int K pc lv st lh (Int32.ofInt v) 2 = some o) : gOk G l p e R s m args below meth c Q own name cc d nL L0 S0 rt o pc lv st lh := by
  refine ⟨(hK _ _ _ _ h).1, fun X hE H locs cells slots ls hR hS hl h1 h2 => ?_⟩
  obtain ⟨hx, hb, hml, hown, hks, hG, hnm, hfr, hlo, hcc, hss⟩ := id X
  refine lv_ldc hx hb hown (hks.1 _ (List.mem_filter.mp hw).1 (List.mem_filter.mp hw).2 args) hdg ?_
  exact (hK _ _ _ _ h).2 X hE _ _ _ _ _ hR hS hl h1 h2
theorem gw_ldcw (hK : ∀ pc lv st lh, K pc lv st lh = some o → gOk G l p e R s m args below meth c Q own name cc d nL L0 S0 rt o pc lv st lh) {n : Nat} (hw : Cond.constant own n (Int32.ofInt v) ∈ gTB) (hdg : decode cc pc = .ok (.ldc_w n, 3)) (h : gI_int K pc lv st lh (Int32.ofInt v) 3 = some o) : gOk G l p e R s m args below meth c Q own name cc d nL L0 S0 rt o pc lv st lh := by
  refine ⟨(hK _ _ _ _ h).1, fun X hE H locs cells slots ls hR hS hl h1 h2 => ?_⟩
  obtain ⟨hx, hb, hml, hown, hks, hG, hnm, hfr, hlo, hcc, hss⟩ := id X
  refine lv_ldcw hx hb hown (hks.1 _ (List.mem_filter.mp hw).1 (List.mem_filter.mp hw).2 args) hdg ?_
  exact (hK _ _ _ _ h).2 X hE _ _ _ _ _ hR hS hl h1 h2
theorem gw_ldc2 (hK : ∀ pc lv st lh, K pc lv st lh = some o → gOk G l p e R s m args below meth c Q own name cc d nL L0 S0 rt o pc lv st lh) {n : Nat} (hw : Cond.constantLong own n (Int64.ofInt v) ∈ gTB) (hdg : decode cc pc = .ok (.ldc2_w n, 3)) (h : gI_long K pc lv st lh (Int64.ofInt v) 3 = some o) : gOk G l p e R s m args below meth c Q own name cc d nL L0 S0 rt o pc lv st lh := by
  refine ⟨(hK _ _ _ _ h).1, fun X hE H locs cells slots ls hR hS hl h1 h2 => ?_⟩
  obtain ⟨hx, hb, hml, hown, hks, hG, hnm, hfr, hlo, hcc, hss⟩ := id X
  refine lv_ldc2 hx hb hown (hks.1 _ (List.mem_filter.mp hw).1 (List.mem_filter.mp hw).2 args) hdg ?_
  exact (hK _ _ _ _ h).2 X hE _ _ _ _ _ hR hS hl h1 h2
theorem gw_ldcS (hK : ∀ pc lv st lh, K pc lv st lh = some o → gOk G l p e R s m args below meth c Q own name cc d nL L0 S0 rt o pc lv st lh) {n : Nat} (ha : a < 3) (ho : own = "MixStage$Tokens") (hn : n = (gSt a).1) (hz : vk_R "MixStage$Tokens" (gSt a).1 (gSt a).2 (gad G (2 * a + 1)) s = vk_R own n (gSt a).2 (gad G (2 * a + 1)) s) (hdg : decode cc pc = .ok (.ldc n, 2)) (h : K (pc + 2) lv (.ref (2 * a + 1) :: st) lh = some o) : gOk G l p e R s m args below meth c Q own name cc d nL L0 S0 rt o pc lv st lh := by
  refine ⟨(hK _ _ _ _ h).1, fun X hE H locs cells slots ls hR hS hl h1 h2 => ?_⟩
  obtain ⟨hx, hb, hml, hown, hks, hG, hnm, hfr, hlo, hcc, hss⟩ := id X
  refine va_ldcS hx hb hown (hz ▸ hks.2.2.1 a ha) hdg ?_
  exact (hK _ _ _ _ h).2 X hE _ _ _ _ _ hR hS hl h1 h2
theorem gw_iadd (hK : ∀ pc lv st lh, K pc lv st lh = some o → gOk G l p e R s m args below meth c Q own name cc d nL L0 S0 rt o pc lv st lh) (hdg : decode cc pc = .ok (.iadd, 1)) (h : gI_bin K pc lv st lh (fun x y => x + y) = some o) : gOk G l p e R s m args below meth c Q own name cc d nL L0 S0 rt o pc lv st lh := by
  unfold gI_bin at h
  split at h
  · skip
    refine ⟨(hK _ _ _ _ h).1, fun X hE H locs cells slots ls hR hS hl h1 h2 => ?_⟩
    obtain ⟨hx, hb, hml, hown, hks, hG, hnm, hfr, hlo, hcc, hss⟩ := id X
    refine lv_iadd hx hb hdg ?_
    exact (hK _ _ _ _ h).2 X hE _ _ _ _ _ hR hS hl h1 h2
  all_goals cases h
theorem gw_isub (hK : ∀ pc lv st lh, K pc lv st lh = some o → gOk G l p e R s m args below meth c Q own name cc d nL L0 S0 rt o pc lv st lh) (hdg : decode cc pc = .ok (.isub, 1)) (h : gI_bin K pc lv st lh (fun x y => x - y) = some o) : gOk G l p e R s m args below meth c Q own name cc d nL L0 S0 rt o pc lv st lh := by
  unfold gI_bin at h
  split at h
  · skip
    refine ⟨(hK _ _ _ _ h).1, fun X hE H locs cells slots ls hR hS hl h1 h2 => ?_⟩
    obtain ⟨hx, hb, hml, hown, hks, hG, hnm, hfr, hlo, hcc, hss⟩ := id X
    refine lv_isub hx hb hdg ?_
    exact (hK _ _ _ _ h).2 X hE _ _ _ _ _ hR hS hl h1 h2
  all_goals cases h
theorem gw_imul (hK : ∀ pc lv st lh, K pc lv st lh = some o → gOk G l p e R s m args below meth c Q own name cc d nL L0 S0 rt o pc lv st lh) (hdg : decode cc pc = .ok (.imul, 1)) (h : gI_bin K pc lv st lh (fun x y => x * y) = some o) : gOk G l p e R s m args below meth c Q own name cc d nL L0 S0 rt o pc lv st lh := by
  unfold gI_bin at h
  split at h
  · skip
    refine ⟨(hK _ _ _ _ h).1, fun X hE H locs cells slots ls hR hS hl h1 h2 => ?_⟩
    obtain ⟨hx, hb, hml, hown, hks, hG, hnm, hfr, hlo, hcc, hss⟩ := id X
    refine lv_imul hx hb hdg ?_
    exact (hK _ _ _ _ h).2 X hE _ _ _ _ _ hR hS hl h1 h2
  all_goals cases h
theorem gw_iand (hK : ∀ pc lv st lh, K pc lv st lh = some o → gOk G l p e R s m args below meth c Q own name cc d nL L0 S0 rt o pc lv st lh) (hdg : decode cc pc = .ok (.iand, 1)) (h : gI_bin K pc lv st lh (fun x y => x &&& y) = some o) : gOk G l p e R s m args below meth c Q own name cc d nL L0 S0 rt o pc lv st lh := by
  unfold gI_bin at h
  split at h
  · skip
    refine ⟨(hK _ _ _ _ h).1, fun X hE H locs cells slots ls hR hS hl h1 h2 => ?_⟩
    obtain ⟨hx, hb, hml, hown, hks, hG, hnm, hfr, hlo, hcc, hss⟩ := id X
    refine lv_iand hx hb hdg ?_
    exact (hK _ _ _ _ h).2 X hE _ _ _ _ _ hR hS hl h1 h2
  all_goals cases h
theorem gw_ior (hK : ∀ pc lv st lh, K pc lv st lh = some o → gOk G l p e R s m args below meth c Q own name cc d nL L0 S0 rt o pc lv st lh) (hdg : decode cc pc = .ok (.ior, 1)) (h : gI_bin K pc lv st lh (fun x y => x ||| y) = some o) : gOk G l p e R s m args below meth c Q own name cc d nL L0 S0 rt o pc lv st lh := by
  unfold gI_bin at h
  split at h
  · skip
    refine ⟨(hK _ _ _ _ h).1, fun X hE H locs cells slots ls hR hS hl h1 h2 => ?_⟩
    obtain ⟨hx, hb, hml, hown, hks, hG, hnm, hfr, hlo, hcc, hss⟩ := id X
    refine lv_ior hx hb hdg ?_
    exact (hK _ _ _ _ h).2 X hE _ _ _ _ _ hR hS hl h1 h2
  all_goals cases h
theorem gw_ixor (hK : ∀ pc lv st lh, K pc lv st lh = some o → gOk G l p e R s m args below meth c Q own name cc d nL L0 S0 rt o pc lv st lh) (hdg : decode cc pc = .ok (.ixor, 1)) (h : gI_bin K pc lv st lh (fun x y => x ^^^ y) = some o) : gOk G l p e R s m args below meth c Q own name cc d nL L0 S0 rt o pc lv st lh := by
  unfold gI_bin at h
  split at h
  · skip
    refine ⟨(hK _ _ _ _ h).1, fun X hE H locs cells slots ls hR hS hl h1 h2 => ?_⟩
    obtain ⟨hx, hb, hml, hown, hks, hG, hnm, hfr, hlo, hcc, hss⟩ := id X
    refine lv_ixor hx hb hdg ?_
    exact (hK _ _ _ _ h).2 X hE _ _ _ _ _ hR hS hl h1 h2
  all_goals cases h
theorem gw_ishl (hK : ∀ pc lv st lh, K pc lv st lh = some o → gOk G l p e R s m args below meth c Q own name cc d nL L0 S0 rt o pc lv st lh) (hdg : decode cc pc = .ok (.ishl, 1)) (h : gI_bin K pc lv st lh (fun x y => x <<< (y &&& 31)) = some o) : gOk G l p e R s m args below meth c Q own name cc d nL L0 S0 rt o pc lv st lh := by
  unfold gI_bin at h
  split at h
  · skip
    refine ⟨(hK _ _ _ _ h).1, fun X hE H locs cells slots ls hR hS hl h1 h2 => ?_⟩
    obtain ⟨hx, hb, hml, hown, hks, hG, hnm, hfr, hlo, hcc, hss⟩ := id X
    refine lv_ishl hx hb hdg ?_
    exact (hK _ _ _ _ h).2 X hE _ _ _ _ _ hR hS hl h1 h2
  all_goals cases h
theorem gw_ishr (hK : ∀ pc lv st lh, K pc lv st lh = some o → gOk G l p e R s m args below meth c Q own name cc d nL L0 S0 rt o pc lv st lh) (hdg : decode cc pc = .ok (.ishr, 1)) (h : gI_bin K pc lv st lh (fun x y => x >>> (y &&& 31)) = some o) : gOk G l p e R s m args below meth c Q own name cc d nL L0 S0 rt o pc lv st lh := by
  unfold gI_bin at h
  split at h
  · skip
    refine ⟨(hK _ _ _ _ h).1, fun X hE H locs cells slots ls hR hS hl h1 h2 => ?_⟩
    obtain ⟨hx, hb, hml, hown, hks, hG, hnm, hfr, hlo, hcc, hss⟩ := id X
    refine lv_ishr hx hb hdg ?_
    exact (hK _ _ _ _ h).2 X hE _ _ _ _ _ hR hS hl h1 h2
  all_goals cases h
theorem gw_iushr (hK : ∀ pc lv st lh, K pc lv st lh = some o → gOk G l p e R s m args below meth c Q own name cc d nL L0 S0 rt o pc lv st lh) (hdg : decode cc pc = .ok (.iushr, 1)) (h : gI_bin K pc lv st lh (fun x y => (x.toUInt32 >>> (y.toUInt32 &&& Int32.toUInt32 31)).toInt32) = some o) : gOk G l p e R s m args below meth c Q own name cc d nL L0 S0 rt o pc lv st lh := by
  unfold gI_bin at h
  split at h
  · skip
    refine ⟨(hK _ _ _ _ h).1, fun X hE H locs cells slots ls hR hS hl h1 h2 => ?_⟩
    obtain ⟨hx, hb, hml, hown, hks, hG, hnm, hfr, hlo, hcc, hss⟩ := id X
    refine lv_iushr hx hb hdg rfl ?_
    exact (hK _ _ _ _ h).2 X hE _ _ _ _ _ hR hS hl h1 h2
  all_goals cases h
theorem gw_ineg (hK : ∀ pc lv st lh, K pc lv st lh = some o → gOk G l p e R s m args below meth c Q own name cc d nL L0 S0 rt o pc lv st lh) (hdg : decode cc pc = .ok (.ineg, 1)) (h : gI_un K pc lv st lh (fun x => -x) = some o) : gOk G l p e R s m args below meth c Q own name cc d nL L0 S0 rt o pc lv st lh := by
  unfold gI_un at h
  split at h
  · skip
    refine ⟨(hK _ _ _ _ h).1, fun X hE H locs cells slots ls hR hS hl h1 h2 => ?_⟩
    obtain ⟨hx, hb, hml, hown, hks, hG, hnm, hfr, hlo, hcc, hss⟩ := id X
    refine lv_ineg hx hb hdg ?_
    exact (hK _ _ _ _ h).2 X hE _ _ _ _ _ hR hS hl h1 h2
  all_goals cases h
theorem gw_i2b (hK : ∀ pc lv st lh, K pc lv st lh = some o → gOk G l p e R s m args below meth c Q own name cc d nL L0 S0 rt o pc lv st lh) (hdg : decode cc pc = .ok (.i2b, 1)) (h : gI_un K pc lv st lh (fun x => x.toInt8.toInt32) = some o) : gOk G l p e R s m args below meth c Q own name cc d nL L0 S0 rt o pc lv st lh := by
  unfold gI_un at h
  split at h
  · skip
    refine ⟨(hK _ _ _ _ h).1, fun X hE H locs cells slots ls hR hS hl h1 h2 => ?_⟩
    obtain ⟨hx, hb, hml, hown, hks, hG, hnm, hfr, hlo, hcc, hss⟩ := id X
    refine lv_i2b hx hb hdg rfl ?_
    exact (hK _ _ _ _ h).2 X hE _ _ _ _ _ hR hS hl h1 h2
  all_goals cases h
theorem gw_i2c (hK : ∀ pc lv st lh, K pc lv st lh = some o → gOk G l p e R s m args below meth c Q own name cc d nL L0 S0 rt o pc lv st lh) (hdg : decode cc pc = .ok (.i2c, 1)) (h : gI_un K pc lv st lh (fun x => (x.toUInt32 % 65536).toInt32) = some o) : gOk G l p e R s m args below meth c Q own name cc d nL L0 S0 rt o pc lv st lh := by
  unfold gI_un at h
  split at h
  · skip
    refine ⟨(hK _ _ _ _ h).1, fun X hE H locs cells slots ls hR hS hl h1 h2 => ?_⟩
    obtain ⟨hx, hb, hml, hown, hks, hG, hnm, hfr, hlo, hcc, hss⟩ := id X
    refine lv_i2c hx hb hdg rfl ?_
    exact (hK _ _ _ _ h).2 X hE _ _ _ _ _ hR hS hl h1 h2
  all_goals cases h
theorem gw_ladd (hK : ∀ pc lv st lh, K pc lv st lh = some o → gOk G l p e R s m args below meth c Q own name cc d nL L0 S0 rt o pc lv st lh) (hdg : decode cc pc = .ok (.ladd, 1)) (h : gI_lbin K pc lv st lh (fun x y => x + y) = some o) : gOk G l p e R s m args below meth c Q own name cc d nL L0 S0 rt o pc lv st lh := by
  unfold gI_lbin at h
  split at h
  · skip
    refine ⟨(hK _ _ _ _ h).1, fun X hE H locs cells slots ls hR hS hl h1 h2 => ?_⟩
    obtain ⟨hx, hb, hml, hown, hks, hG, hnm, hfr, hlo, hcc, hss⟩ := id X
    refine lv_ladd hx hb hdg ?_
    exact (hK _ _ _ _ h).2 X hE _ _ _ _ _ hR hS hl h1 h2
  all_goals cases h
theorem gw_lsub (hK : ∀ pc lv st lh, K pc lv st lh = some o → gOk G l p e R s m args below meth c Q own name cc d nL L0 S0 rt o pc lv st lh) (hdg : decode cc pc = .ok (.lsub, 1)) (h : gI_lbin K pc lv st lh (fun x y => x - y) = some o) : gOk G l p e R s m args below meth c Q own name cc d nL L0 S0 rt o pc lv st lh := by
  unfold gI_lbin at h
  split at h
  · skip
    refine ⟨(hK _ _ _ _ h).1, fun X hE H locs cells slots ls hR hS hl h1 h2 => ?_⟩
    obtain ⟨hx, hb, hml, hown, hks, hG, hnm, hfr, hlo, hcc, hss⟩ := id X
    refine lv_lsub hx hb hdg ?_
    exact (hK _ _ _ _ h).2 X hE _ _ _ _ _ hR hS hl h1 h2
  all_goals cases h
theorem gw_lmul (hK : ∀ pc lv st lh, K pc lv st lh = some o → gOk G l p e R s m args below meth c Q own name cc d nL L0 S0 rt o pc lv st lh) (hdg : decode cc pc = .ok (.lmul, 1)) (h : gI_lbin K pc lv st lh (fun x y => x * y) = some o) : gOk G l p e R s m args below meth c Q own name cc d nL L0 S0 rt o pc lv st lh := by
  unfold gI_lbin at h
  split at h
  · skip
    refine ⟨(hK _ _ _ _ h).1, fun X hE H locs cells slots ls hR hS hl h1 h2 => ?_⟩
    obtain ⟨hx, hb, hml, hown, hks, hG, hnm, hfr, hlo, hcc, hss⟩ := id X
    refine lv_lmul hx hb hdg ?_
    exact (hK _ _ _ _ h).2 X hE _ _ _ _ _ hR hS hl h1 h2
  all_goals cases h
theorem gw_lcmp (hK : ∀ pc lv st lh, K pc lv st lh = some o → gOk G l p e R s m args below meth c Q own name cc d nL L0 S0 rt o pc lv st lh) (hdg : decode cc pc = .ok (.lcmp, 1)) (h : gI_lcmp K pc lv st lh = some o) : gOk G l p e R s m args below meth c Q own name cc d nL L0 S0 rt o pc lv st lh := by
  unfold gI_lcmp at h
  split at h
  · skip
    refine ⟨(hK _ _ _ _ h).1, fun X hE H locs cells slots ls hR hS hl h1 h2 => ?_⟩
    obtain ⟨hx, hb, hml, hown, hks, hG, hnm, hfr, hlo, hcc, hss⟩ := id X
    refine W.lcmp hx hb hdg ?_
    exact (hK _ _ _ _ h).2 X hE _ _ _ _ _ hR hS hl h1 h2
  all_goals cases h
theorem gw_i2l (hK : ∀ pc lv st lh, K pc lv st lh = some o → gOk G l p e R s m args below meth c Q own name cc d nL L0 S0 rt o pc lv st lh) (hdg : decode cc pc = .ok (.i2l, 1)) (h : gI_i2l K pc lv st lh = some o) : gOk G l p e R s m args below meth c Q own name cc d nL L0 S0 rt o pc lv st lh := by
  unfold gI_i2l at h
  split at h
  · skip
    refine ⟨(hK _ _ _ _ h).1, fun X hE H locs cells slots ls hR hS hl h1 h2 => ?_⟩
    obtain ⟨hx, hb, hml, hown, hks, hG, hnm, hfr, hlo, hcc, hss⟩ := id X
    refine lv_i2l hx hb hdg rfl ?_
    exact (hK _ _ _ _ h).2 X hE _ _ _ _ _ hR hS hl h1 h2
  all_goals cases h
theorem gw_l2i (hK : ∀ pc lv st lh, K pc lv st lh = some o → gOk G l p e R s m args below meth c Q own name cc d nL L0 S0 rt o pc lv st lh) (hdg : decode cc pc = .ok (.l2i, 1)) (h : gI_l2i K pc lv st lh = some o) : gOk G l p e R s m args below meth c Q own name cc d nL L0 S0 rt o pc lv st lh := by
  unfold gI_l2i at h
  split at h
  · skip
    refine ⟨(hK _ _ _ _ h).1, fun X hE H locs cells slots ls hR hS hl h1 h2 => ?_⟩
    obtain ⟨hx, hb, hml, hown, hks, hG, hnm, hfr, hlo, hcc, hss⟩ := id X
    refine lv_l2i hx hb hdg rfl ?_
    exact (hK _ _ _ _ h).2 X hE _ _ _ _ _ hR hS hl h1 h2
  all_goals cases h
theorem gw_idiv (hK : ∀ pc lv st lh, K pc lv st lh = some o → gOk G l p e R s m args below meth c Q own name cc d nL L0 S0 rt o pc lv st lh) (hdg : decode cc pc = .ok (.idiv, 1)) (h : gI_div K pc lv st lh (fun x y => x / y) = some o) : gOk G l p e R s m args below meth c Q own name cc d nL L0 S0 rt o pc lv st lh := by
  unfold gI_div at h
  split at h
  · rename_i y x r
    by_cases hy : y = 0
    · rw [decide_eq_true hy] at h
      cases h
    · rw [decide_eq_false hy] at h
      refine ⟨(hK _ _ _ _ h).1, fun X hE H locs cells slots ls hR hS hl h1 h2 => ?_⟩
      obtain ⟨hx, hb, hml, hown, hks, hG, hnm, hfr, hlo, hcc, hss⟩ := id X
      refine lv_idiv hx hb hdg hy ?_
      exact (hK _ _ _ _ h).2 X hE _ _ _ _ _ hR hS hl h1 h2
  all_goals cases h
theorem gw_irem (hK : ∀ pc lv st lh, K pc lv st lh = some o → gOk G l p e R s m args below meth c Q own name cc d nL L0 S0 rt o pc lv st lh) (hdg : decode cc pc = .ok (.irem, 1)) (h : gI_div K pc lv st lh (fun x y => x - x / y * y) = some o) : gOk G l p e R s m args below meth c Q own name cc d nL L0 S0 rt o pc lv st lh := by
  unfold gI_div at h
  split at h
  · rename_i y x r
    by_cases hy : y = 0
    · rw [decide_eq_true hy] at h
      cases h
    · rw [decide_eq_false hy] at h
      refine ⟨(hK _ _ _ _ h).1, fun X hE H locs cells slots ls hR hS hl h1 h2 => ?_⟩
      obtain ⟨hx, hb, hml, hown, hks, hG, hnm, hfr, hlo, hcc, hss⟩ := id X
      refine lv_irem hx hb hdg hy ?_
      exact (hK _ _ _ _ h).2 X hE _ _ _ _ _ hR hS hl h1 h2
  all_goals cases h
theorem gw_ldiv (hK : ∀ pc lv st lh, K pc lv st lh = some o → gOk G l p e R s m args below meth c Q own name cc d nL L0 S0 rt o pc lv st lh) (hdg : decode cc pc = .ok (.ldiv, 1)) (h : gI_ldiv K pc lv st lh = some o) : gOk G l p e R s m args below meth c Q own name cc d nL L0 S0 rt o pc lv st lh := by
  unfold gI_ldiv at h
  split at h
  · rename_i y x r
    by_cases hy : y = 0
    · rw [decide_eq_true hy] at h
      cases h
    · rw [decide_eq_false hy] at h
      refine ⟨(hK _ _ _ _ h).1, fun X hE H locs cells slots ls hR hS hl h1 h2 => ?_⟩
      obtain ⟨hx, hb, hml, hown, hks, hG, hnm, hfr, hlo, hcc, hss⟩ := id X
      refine lv_ldiv hx hb hdg hy ?_
      exact (hK _ _ _ _ h).2 X hE _ _ _ _ _ hR hS hl h1 h2
  all_goals cases h
theorem gw_dup (hK : ∀ pc lv st lh, K pc lv st lh = some o → gOk G l p e R s m args below meth c Q own name cc d nL L0 S0 rt o pc lv st lh) (hdg : decode cc pc = .ok (.dup, 1)) (h : gI_dup K pc lv st lh = some o) : gOk G l p e R s m args below meth c Q own name cc d nL L0 S0 rt o pc lv st lh := by
  unfold gI_dup at h
  split at h
  · rename_i w r
    cases hw : Nat.beq w.category 1 with
    | false => rw [hw] at h; cases h
    | true =>
      rw [hw] at h
      refine ⟨(hK _ _ _ _ h).1, fun X hE H locs cells slots ls hR hS hl h1 h2 => ?_⟩
      obtain ⟨hx, hb, hml, hown, hks, hG, hnm, hfr, hlo, hcc, hss⟩ := id X
      refine lv_dup hx hb hdg (by rw [grv_cat]; exact Nat.eq_of_beq_eq_true hw) ?_
      exact (hK _ _ _ _ h).2 X hE _ _ _ _ _ hR hS hl h1 h2
  all_goals cases h
theorem gw_pop (hK : ∀ pc lv st lh, K pc lv st lh = some o → gOk G l p e R s m args below meth c Q own name cc d nL L0 S0 rt o pc lv st lh) (hdg : decode cc pc = .ok (.pop, 1)) (h : gI_pop K pc lv st lh = some o) : gOk G l p e R s m args below meth c Q own name cc d nL L0 S0 rt o pc lv st lh := by
  unfold gI_pop at h
  split at h
  · rename_i w r
    cases hw : Nat.beq w.category 1 with
    | false => rw [hw] at h; cases h
    | true =>
      rw [hw] at h
      refine ⟨(hK _ _ _ _ h).1, fun X hE H locs cells slots ls hR hS hl h1 h2 => ?_⟩
      obtain ⟨hx, hb, hml, hown, hks, hG, hnm, hfr, hlo, hcc, hss⟩ := id X
      refine lv_pop hx hb hdg (by rw [grv_cat]; exact Nat.eq_of_beq_eq_true hw) ?_
      exact (hK _ _ _ _ h).2 X hE _ _ _ _ _ hR hS hl h1 h2
  all_goals cases h
theorem gw_dup2 (hK : ∀ pc lv st lh, K pc lv st lh = some o → gOk G l p e R s m args below meth c Q own name cc d nL L0 S0 rt o pc lv st lh) (hdg : decode cc pc = .ok (.dup2, 1)) (h : gI_dup2 K pc lv st lh = some o) : gOk G l p e R s m args below meth c Q own name cc d nL L0 S0 rt o pc lv st lh := by
  unfold gI_dup2 at h
  split at h
  · rename_i w r
    cases hw : Nat.beq w.category 2 with
    | true =>
      rw [hw] at h
      refine ⟨(hK _ _ _ _ h).1, fun X hE H locs cells slots ls hR hS hl h1 h2 => ?_⟩
      obtain ⟨hx, hb, hml, hown, hks, hG, hnm, hfr, hlo, hcc, hss⟩ := id X
      refine lv_dup2_2 hx hb hdg (by rw [grv_cat]; exact Nat.eq_of_beq_eq_true hw) ?_
      exact (hK _ _ _ _ h).2 X hE _ _ _ _ _ hR hS hl h1 h2
    | false =>
      rw [hw] at h
      dsimp only [cond_false] at h
      split at h
      · rename_i w2 r2
        cases hq : (Nat.beq w.category 1 && Nat.beq w2.category 1) with
        | false => rw [hq] at h; cases h
        | true =>
          rw [hq] at h
          rw [Bool.and_eq_true] at hq
          refine ⟨(hK _ _ _ _ h).1, fun X hE H locs cells slots ls hR hS hl h1 h2 => ?_⟩
          obtain ⟨hx, hb, hml, hown, hks, hG, hnm, hfr, hlo, hcc, hss⟩ := id X
          refine lv_dup2_11 hx hb hdg (by rw [grv_cat]; exact Nat.eq_of_beq_eq_true hq.1) (by rw [grv_cat]; exact Nat.eq_of_beq_eq_true hq.2) ?_
          exact (hK _ _ _ _ h).2 X hE _ _ _ _ _ hR hS hl h1 h2
      · cases h
  all_goals cases h
theorem gw_if (hK : ∀ pc lv st lh, K pc lv st lh = some o → gOk G l p e R s m args below meth c Q own name cc d nL L0 S0 rt o pc lv st lh) {cd : Jvm.ClassFile.Cond} {off : Int} (hdg : decode cc pc = .ok (.ifCond cd off, 3)) (ht : (pc : Int) + off = (a : Int)) (h : gI_if K pc a lv st lh cd = some o) : gOk G l p e R s m args below meth c Q own name cc d nL L0 S0 rt o pc lv st lh := by
  unfold gI_if at h
  split at h
  · rename_i x r
    cases cd with
    | eq =>
      refine ⟨?_, fun X hE H locs cells slots ls hR hS hl h1 h2 => ?_⟩
      · cases hq : gCmp .eq x 0 with
        | true => rw [hq] at h; exact (hK _ _ _ _ h).1
        | false => rw [hq] at h; exact (hK _ _ _ _ h).1
      · obtain ⟨hx, hb, hml, hown, hks, hG, hnm, hfr, hlo, hcc, hss⟩ := id X
        refine lv_if_eq hx hb hdg ht (fun hq => ?_) (fun hq => ?_)
        · rw [show gCmp .eq x 0 = true from decide_eq_true hq] at h
          exact (hK _ _ _ _ h).2 X hE _ _ _ _ _ hR hS hl h1 h2
        · rw [show gCmp .eq x 0 = false from decide_eq_false (hq)] at h
          exact (hK _ _ _ _ h).2 X hE _ _ _ _ _ hR hS hl h1 h2
    | ne =>
      refine ⟨?_, fun X hE H locs cells slots ls hR hS hl h1 h2 => ?_⟩
      · cases hq : gCmp .ne x 0 with
        | true => rw [hq] at h; exact (hK _ _ _ _ h).1
        | false => rw [hq] at h; exact (hK _ _ _ _ h).1
      · obtain ⟨hx, hb, hml, hown, hks, hG, hnm, hfr, hlo, hcc, hss⟩ := id X
        refine lv_if_ne hx hb hdg ht (fun hq => ?_) (fun hq => ?_)
        · rw [show gCmp .ne x 0 = true from decide_eq_true hq] at h
          exact (hK _ _ _ _ h).2 X hE _ _ _ _ _ hR hS hl h1 h2
        · rw [show gCmp .ne x 0 = false from decide_eq_false (fun z => z hq)] at h
          exact (hK _ _ _ _ h).2 X hE _ _ _ _ _ hR hS hl h1 h2
    | lt =>
      refine ⟨?_, fun X hE H locs cells slots ls hR hS hl h1 h2 => ?_⟩
      · cases hq : gCmp .lt x 0 with
        | true => rw [hq] at h; exact (hK _ _ _ _ h).1
        | false => rw [hq] at h; exact (hK _ _ _ _ h).1
      · obtain ⟨hx, hb, hml, hown, hks, hG, hnm, hfr, hlo, hcc, hss⟩ := id X
        refine lv_if_lt hx hb hdg ht (fun hq => ?_) (fun hq => ?_)
        · rw [show gCmp .lt x 0 = true from decide_eq_true hq] at h
          exact (hK _ _ _ _ h).2 X hE _ _ _ _ _ hR hS hl h1 h2
        · rw [show gCmp .lt x 0 = false from decide_eq_false (hq)] at h
          exact (hK _ _ _ _ h).2 X hE _ _ _ _ _ hR hS hl h1 h2
    | ge =>
      refine ⟨?_, fun X hE H locs cells slots ls hR hS hl h1 h2 => ?_⟩
      · cases hq : gCmp .ge x 0 with
        | true => rw [hq] at h; exact (hK _ _ _ _ h).1
        | false => rw [hq] at h; exact (hK _ _ _ _ h).1
      · obtain ⟨hx, hb, hml, hown, hks, hG, hnm, hfr, hlo, hcc, hss⟩ := id X
        refine lv_if_ge hx hb hdg ht (fun hq => ?_) (fun hq => ?_)
        · rw [show gCmp .ge x 0 = true from decide_eq_true hq] at h
          exact (hK _ _ _ _ h).2 X hE _ _ _ _ _ hR hS hl h1 h2
        · rw [show gCmp .ge x 0 = false from decide_eq_false (hq)] at h
          exact (hK _ _ _ _ h).2 X hE _ _ _ _ _ hR hS hl h1 h2
    | gt =>
      refine ⟨?_, fun X hE H locs cells slots ls hR hS hl h1 h2 => ?_⟩
      · cases hq : gCmp .gt x 0 with
        | true => rw [hq] at h; exact (hK _ _ _ _ h).1
        | false => rw [hq] at h; exact (hK _ _ _ _ h).1
      · obtain ⟨hx, hb, hml, hown, hks, hG, hnm, hfr, hlo, hcc, hss⟩ := id X
        refine lv_if_gt hx hb hdg ht (fun hq => ?_) (fun hq => ?_)
        · rw [show gCmp .gt x 0 = true from decide_eq_true hq] at h
          exact (hK _ _ _ _ h).2 X hE _ _ _ _ _ hR hS hl h1 h2
        · rw [show gCmp .gt x 0 = false from decide_eq_false (hq)] at h
          exact (hK _ _ _ _ h).2 X hE _ _ _ _ _ hR hS hl h1 h2
    | le =>
      refine ⟨?_, fun X hE H locs cells slots ls hR hS hl h1 h2 => ?_⟩
      · cases hq : gCmp .le x 0 with
        | true => rw [hq] at h; exact (hK _ _ _ _ h).1
        | false => rw [hq] at h; exact (hK _ _ _ _ h).1
      · obtain ⟨hx, hb, hml, hown, hks, hG, hnm, hfr, hlo, hcc, hss⟩ := id X
        refine lv_if_le hx hb hdg ht (fun hq => ?_) (fun hq => ?_)
        · rw [show gCmp .le x 0 = true from decide_eq_true hq] at h
          exact (hK _ _ _ _ h).2 X hE _ _ _ _ _ hR hS hl h1 h2
        · rw [show gCmp .le x 0 = false from decide_eq_false (hq)] at h
          exact (hK _ _ _ _ h).2 X hE _ _ _ _ _ hR hS hl h1 h2
  all_goals cases h
theorem gw_icmp (hK : ∀ pc lv st lh, K pc lv st lh = some o → gOk G l p e R s m args below meth c Q own name cc d nL L0 S0 rt o pc lv st lh) {cd : Jvm.ClassFile.Cond} {off : Int} (hdg : decode cc pc = .ok (.if_icmp cd off, 3)) (ht : (pc : Int) + off = (a : Int)) (h : gI_icmp K pc a lv st lh cd = some o) : gOk G l p e R s m args below meth c Q own name cc d nL L0 S0 rt o pc lv st lh := by
  unfold gI_icmp at h
  split at h
  · rename_i y x r
    cases cd with
    | eq =>
      refine ⟨?_, fun X hE H locs cells slots ls hR hS hl h1 h2 => ?_⟩
      · cases hq : gCmp .eq x y with
        | true => rw [hq] at h; exact (hK _ _ _ _ h).1
        | false => rw [hq] at h; exact (hK _ _ _ _ h).1
      · obtain ⟨hx, hb, hml, hown, hks, hG, hnm, hfr, hlo, hcc, hss⟩ := id X
        refine lv_icmp_eq hx hb hdg ht (fun hq => ?_) (fun hq => ?_)
        · rw [show gCmp .eq x y = true from decide_eq_true hq] at h
          exact (hK _ _ _ _ h).2 X hE _ _ _ _ _ hR hS hl h1 h2
        · rw [show gCmp .eq x y = false from decide_eq_false (hq)] at h
          exact (hK _ _ _ _ h).2 X hE _ _ _ _ _ hR hS hl h1 h2
    | ne =>
      refine ⟨?_, fun X hE H locs cells slots ls hR hS hl h1 h2 => ?_⟩
      · cases hq : gCmp .ne x y with
        | true => rw [hq] at h; exact (hK _ _ _ _ h).1
        | false => rw [hq] at h; exact (hK _ _ _ _ h).1
      · obtain ⟨hx, hb, hml, hown, hks, hG, hnm, hfr, hlo, hcc, hss⟩ := id X
        refine lv_icmp_ne hx hb hdg ht (fun hq => ?_) (fun hq => ?_)
        · rw [show gCmp .ne x y = true from decide_eq_true hq] at h
          exact (hK _ _ _ _ h).2 X hE _ _ _ _ _ hR hS hl h1 h2
        · rw [show gCmp .ne x y = false from decide_eq_false (fun z => z hq)] at h
          exact (hK _ _ _ _ h).2 X hE _ _ _ _ _ hR hS hl h1 h2
    | lt =>
      refine ⟨?_, fun X hE H locs cells slots ls hR hS hl h1 h2 => ?_⟩
      · cases hq : gCmp .lt x y with
        | true => rw [hq] at h; exact (hK _ _ _ _ h).1
        | false => rw [hq] at h; exact (hK _ _ _ _ h).1
      · obtain ⟨hx, hb, hml, hown, hks, hG, hnm, hfr, hlo, hcc, hss⟩ := id X
        refine lv_icmp_lt hx hb hdg ht (fun hq => ?_) (fun hq => ?_)
        · rw [show gCmp .lt x y = true from decide_eq_true hq] at h
          exact (hK _ _ _ _ h).2 X hE _ _ _ _ _ hR hS hl h1 h2
        · rw [show gCmp .lt x y = false from decide_eq_false (hq)] at h
          exact (hK _ _ _ _ h).2 X hE _ _ _ _ _ hR hS hl h1 h2
    | ge =>
      refine ⟨?_, fun X hE H locs cells slots ls hR hS hl h1 h2 => ?_⟩
      · cases hq : gCmp .ge x y with
        | true => rw [hq] at h; exact (hK _ _ _ _ h).1
        | false => rw [hq] at h; exact (hK _ _ _ _ h).1
      · obtain ⟨hx, hb, hml, hown, hks, hG, hnm, hfr, hlo, hcc, hss⟩ := id X
        refine lv_icmp_ge hx hb hdg ht (fun hq => ?_) (fun hq => ?_)
        · rw [show gCmp .ge x y = true from decide_eq_true hq] at h
          exact (hK _ _ _ _ h).2 X hE _ _ _ _ _ hR hS hl h1 h2
        · rw [show gCmp .ge x y = false from decide_eq_false (hq)] at h
          exact (hK _ _ _ _ h).2 X hE _ _ _ _ _ hR hS hl h1 h2
    | gt =>
      refine ⟨?_, fun X hE H locs cells slots ls hR hS hl h1 h2 => ?_⟩
      · cases hq : gCmp .gt x y with
        | true => rw [hq] at h; exact (hK _ _ _ _ h).1
        | false => rw [hq] at h; exact (hK _ _ _ _ h).1
      · obtain ⟨hx, hb, hml, hown, hks, hG, hnm, hfr, hlo, hcc, hss⟩ := id X
        refine lv_icmp_gt hx hb hdg ht (fun hq => ?_) (fun hq => ?_)
        · rw [show gCmp .gt x y = true from decide_eq_true hq] at h
          exact (hK _ _ _ _ h).2 X hE _ _ _ _ _ hR hS hl h1 h2
        · rw [show gCmp .gt x y = false from decide_eq_false (hq)] at h
          exact (hK _ _ _ _ h).2 X hE _ _ _ _ _ hR hS hl h1 h2
    | le =>
      refine ⟨?_, fun X hE H locs cells slots ls hR hS hl h1 h2 => ?_⟩
      · cases hq : gCmp .le x y with
        | true => rw [hq] at h; exact (hK _ _ _ _ h).1
        | false => rw [hq] at h; exact (hK _ _ _ _ h).1
      · obtain ⟨hx, hb, hml, hown, hks, hG, hnm, hfr, hlo, hcc, hss⟩ := id X
        refine lv_icmp_le hx hb hdg ht (fun hq => ?_) (fun hq => ?_)
        · rw [show gCmp .le x y = true from decide_eq_true hq] at h
          exact (hK _ _ _ _ h).2 X hE _ _ _ _ _ hR hS hl h1 h2
        · rw [show gCmp .le x y = false from decide_eq_false (hq)] at h
          exact (hK _ _ _ _ h).2 X hE _ _ _ _ _ hR hS hl h1 h2
  all_goals cases h
theorem gw_ifnull (hK : ∀ pc lv st lh, K pc lv st lh = some o → gOk G l p e R s m args below meth c Q own name cc d nL L0 S0 rt o pc lv st lh) {off : Int} (hdg : decode cc pc = .ok (.ifnull off, 3)) (ht : (pc : Int) + off = (a : Int)) (h : gI_ifnull K pc a lv st lh = some o) : gOk G l p e R s m args below meth c Q own name cc d nL L0 S0 rt o pc lv st lh := by
  unfold gI_ifnull at h
  split at h
  · skip
    refine ⟨(hK _ _ _ _ h).1, fun X hE H locs cells slots ls hR hS hl h1 h2 => ?_⟩
    obtain ⟨hx, hb, hml, hown, hks, hG, hnm, hfr, hlo, hcc, hss⟩ := id X
    refine lv_ifnull hx hb hdg ?_
    exact (hK _ _ _ _ h).2 X hE _ _ _ _ _ hR hS hl h1 h2
  · skip
    refine ⟨(hK _ _ _ _ h).1, fun X hE H locs cells slots ls hR hS hl h1 h2 => ?_⟩
    obtain ⟨hx, hb, hml, hown, hks, hG, hnm, hfr, hlo, hcc, hss⟩ := id X
    refine lv_ifnullN hx hb hdg ht ?_
    exact (hK _ _ _ _ h).2 X hE _ _ _ _ _ hR hS hl h1 h2
  all_goals cases h
theorem gw_ifnonnull (hK : ∀ pc lv st lh, K pc lv st lh = some o → gOk G l p e R s m args below meth c Q own name cc d nL L0 S0 rt o pc lv st lh) {off : Int} (hdg : decode cc pc = .ok (.ifnonnull off, 3)) (ht : (pc : Int) + off = (a : Int)) (h : gI_ifnonnull K pc a lv st lh = some o) : gOk G l p e R s m args below meth c Q own name cc d nL L0 S0 rt o pc lv st lh := by
  unfold gI_ifnonnull at h
  split at h
  · skip
    refine ⟨(hK _ _ _ _ h).1, fun X hE H locs cells slots ls hR hS hl h1 h2 => ?_⟩
    obtain ⟨hx, hb, hml, hown, hks, hG, hnm, hfr, hlo, hcc, hss⟩ := id X
    refine lv_ifnonnull hx hb hdg ht ?_
    exact (hK _ _ _ _ h).2 X hE _ _ _ _ _ hR hS hl h1 h2
  · skip
    refine ⟨(hK _ _ _ _ h).1, fun X hE H locs cells slots ls hR hS hl h1 h2 => ?_⟩
    obtain ⟨hx, hb, hml, hown, hks, hG, hnm, hfr, hlo, hcc, hss⟩ := id X
    refine lv_ifnonnullN hx hb hdg ?_
    exact (hK _ _ _ _ h).2 X hE _ _ _ _ _ hR hS hl h1 h2
  all_goals cases h
theorem gw_goto (hK : ∀ pc lv st lh, K pc lv st lh = some o → gOk G l p e R s m args below meth c Q own name cc d nL L0 S0 rt o pc lv st lh) {off : Int} (ht : (pc : Int) + off = (a : Int)) (hdg : decode cc pc = .ok (.goto off, 3)) (h : K a lv st lh = some o) : gOk G l p e R s m args below meth c Q own name cc d nL L0 S0 rt o pc lv st lh := by
  refine ⟨(hK _ _ _ _ h).1, fun X hE H locs cells slots ls hR hS hl h1 h2 => ?_⟩
  obtain ⟨hx, hb, hml, hown, hks, hG, hnm, hfr, hlo, hcc, hss⟩ := id X
  refine lv_goto hx hb hdg ht ?_
  exact (hK _ _ _ _ h).2 X hE _ _ _ _ _ hR hS hl h1 h2
theorem gw_table (hK : ∀ pc lv st lh, K pc lv st lh = some o → gOk G l p e R s m args below meth c Q own name cc d nL L0 S0 rt o pc lv st lh) {dflt lo hi : Int} {offs : Array Int} {len : Nat} (hdg : decode cc pc = .ok (.tableswitch dflt lo hi offs, len)) (h : gI_table K pc lv st lh dflt lo hi offs = some o) : gOk G l p e R s m args below meth c Q own name cc d nL L0 S0 rt o pc lv st lh := by
  unfold gI_table at h
  split at h
  · rename_i x r
    cases hq : (decide (x.toInt < lo) || decide (hi < x.toInt)) with
    | true =>
      rw [hq] at h
      rw [Bool.or_eq_true, decide_eq_true_eq, decide_eq_true_eq] at hq
      dsimp only [cond_true] at h
      by_cases h0 : 0 ≤ (pc : Int) + dflt
      · rw [decide_eq_true h0] at h
        refine ⟨(hK _ _ _ _ h).1, fun X hE H locs cells slots ls hR hS hl h1 h2 => ?_⟩
        obtain ⟨hx, hb, hml, hown, hks, hG, hnm, hfr, hlo, hcc, hss⟩ := id X
        refine lv_tableOut hx hb hdg hq (Int.toNat_of_nonneg h0).symm ?_
        exact (hK _ _ _ _ h).2 X hE _ _ _ _ _ hR hS hl h1 h2
      · rw [decide_eq_false h0] at h
        cases h
    | false =>
      rw [hq] at h
      rw [Bool.or_eq_false_iff, decide_eq_false_iff_not, decide_eq_false_iff_not] at hq
      dsimp only [cond_false] at h
      split at h
      · rename_i off ho
        by_cases h0 : 0 ≤ (pc : Int) + off
        · rw [decide_eq_true h0] at h
          refine ⟨(hK _ _ _ _ h).1, fun X hE H locs cells slots ls hR hS hl h1 h2 => ?_⟩
          obtain ⟨hx, hb, hml, hown, hks, hG, hnm, hfr, hlo, hcc, hss⟩ := id X
          refine lv_tableIn hx hb hdg hq.1 hq.2 ho (Int.toNat_of_nonneg h0).symm ?_
          exact (hK _ _ _ _ h).2 X hE _ _ _ _ _ hR hS hl h1 h2
        · rw [decide_eq_false h0] at h
          cases h
      · cases h
  all_goals cases h
theorem gw_lookup (hK : ∀ pc lv st lh, K pc lv st lh = some o → gOk G l p e R s m args below meth c Q own name cc d nL L0 S0 rt o pc lv st lh) {dflt : Int} {ps : Array (Int × Int)} {len : Nat} (hdg : decode cc pc = .ok (.lookupswitch dflt ps, len)) (hp : (ps.toList.zip (ps.toList.drop 1)).all (fun (a, next) => decide (a.1 < next.1)) = true) (h : gI_lookup K pc lv st lh dflt ps = some o) : gOk G l p e R s m args below meth c Q own name cc d nL L0 S0 rt o pc lv st lh := by
  unfold gI_lookup at h
  split at h
  · rename_i x r
    by_cases h0 : 0 ≤ (pc : Int) + Op.lookupswitch.offset ps.toList dflt x.toInt
    · rw [decide_eq_true h0] at h
      refine ⟨(hK _ _ _ _ h).1, fun X hE H locs cells slots ls hR hS hl h1 h2 => ?_⟩
      obtain ⟨hx, hb, hml, hown, hks, hG, hnm, hfr, hlo, hcc, hss⟩ := id X
      refine lv_lookup hx hb hdg hp rfl (Int.toNat_of_nonneg h0).symm ?_
      exact (hK _ _ _ _ h).2 X hE _ _ _ _ _ hR hS hl h1 h2
    · rw [decide_eq_false h0] at h
      cases h
  all_goals cases h
theorem gw_iret (hK : ∀ pc lv st lh, K pc lv st lh = some o → gOk G l p e R s m args below meth c Q own name cc d nL L0 S0 rt o pc lv st lh) (hdg : decode cc pc = .ok (.ireturn, 1)) (h : gI_iret rt pc st lh = some o) : gOk G l p e R s m args below meth c Q own name cc d nL L0 S0 rt o pc lv st lh := by
  unfold gI_iret at h
  split at h
  · rename_i x
    split at h
    · rename_i ty
      by_cases hn : narrow ty (.int x) = .int x
      · rw [decide_eq_true hn] at h
        cases h
        exact ⟨⟨Or.inl ⟨x, ty, rfl, rfl, hn, hdg⟩, Nat.le_refl _, Nat.le_refl _⟩, fun _ hE H locs cells slots ls hR hS hl h1 h2 => hE H locs cells slots ls hR hS h1 h2⟩
      · rw [decide_eq_false hn] at h
        cases h
    · cases h
  all_goals cases h
theorem gw_lret (hK : ∀ pc lv st lh, K pc lv st lh = some o → gOk G l p e R s m args below meth c Q own name cc d nL L0 S0 rt o pc lv st lh) (hdg : decode cc pc = .ok (.lreturn, 1)) (h : gI_lret rt pc st lh = some o) : gOk G l p e R s m args below meth c Q own name cc d nL L0 S0 rt o pc lv st lh := by
  unfold gI_lret at h
  split at h
  · rename_i x
    split at h
    · cases h
      exact ⟨⟨Or.inr (Or.inl ⟨x, rfl, rfl, hdg⟩), Nat.le_refl _, Nat.le_refl _⟩, fun _ hE H locs cells slots ls hR hS hl h1 h2 => hE H locs cells slots ls hR hS h1 h2⟩
    · cases h
  all_goals cases h
theorem gw_aret (hK : ∀ pc lv st lh, K pc lv st lh = some o → gOk G l p e R s m args below meth c Q own name cc d nL L0 S0 rt o pc lv st lh) (hdg : decode cc pc = .ok (.areturn, 1)) (h : gI_aret rt pc st lh = some o) : gOk G l p e R s m args below meth c Q own name cc d nL L0 S0 rt o pc lv st lh := by
  unfold gI_aret at h
  split at h
  · split at h
    · cases h
      exact ⟨⟨Or.inr (Or.inr (Or.inl ⟨_, _, rfl, Or.inl ⟨_, rfl⟩, rfl, Or.inr ⟨_, rfl⟩, hdg⟩)), Nat.le_refl _, Nat.le_refl _⟩, fun _ hE H locs cells slots ls hR hS hl h1 h2 => hE H locs cells slots ls hR hS h1 h2⟩
    · cases h
      exact ⟨⟨Or.inr (Or.inr (Or.inl ⟨_, _, rfl, Or.inl ⟨_, rfl⟩, rfl, Or.inl rfl, hdg⟩)), Nat.le_refl _, Nat.le_refl _⟩, fun _ hE H locs cells slots ls hR hS hl h1 h2 => hE H locs cells slots ls hR hS h1 h2⟩
    · cases h
  · split at h
    · cases h
      exact ⟨⟨Or.inr (Or.inr (Or.inl ⟨_, _, rfl, Or.inr ⟨_, rfl⟩, rfl, Or.inr ⟨_, rfl⟩, hdg⟩)), Nat.le_refl _, Nat.le_refl _⟩, fun _ hE H locs cells slots ls hR hS hl h1 h2 => hE H locs cells slots ls hR hS h1 h2⟩
    · cases h
      exact ⟨⟨Or.inr (Or.inr (Or.inl ⟨_, _, rfl, Or.inr ⟨_, rfl⟩, rfl, Or.inl rfl, hdg⟩)), Nat.le_refl _, Nat.le_refl _⟩, fun _ hE H locs cells slots ls hR hS hl h1 h2 => hE H locs cells slots ls hR hS h1 h2⟩
    · cases h
  · cases h
theorem gw_vret (hK : ∀ pc lv st lh, K pc lv st lh = some o → gOk G l p e R s m args below meth c Q own name cc d nL L0 S0 rt o pc lv st lh) (hdg : decode cc pc = .ok (.return_, 1)) (h : gI_vret rt pc st lh = some o) : gOk G l p e R s m args below meth c Q own name cc d nL L0 S0 rt o pc lv st lh := by
  unfold gI_vret at h
  split at h
  · split at h
    · cases h
      exact ⟨⟨Or.inr (Or.inr (Or.inr ⟨rfl, rfl, hdg⟩)), Nat.le_refl _, Nat.le_refl _⟩, fun _ hE H locs cells slots ls hR hS hl h1 h2 => hE H locs cells slots ls hR hS h1 h2⟩
    · cases h
  all_goals cases h
end GROWS
end
section
/-! THE INSTRUCTIONS THAT TOUCH THE HEAP (printed by wip/gen/gen09.py). -/
theorem gTb.use {U : State} (h : gTb U) {w : Cond} (hw : w ∈ gTB) (a : Array Value) : w.before a U = true := h w (List.mem_filter.mp hw).1 (List.mem_filter.mp hw).2 a
def gLy0 : List Nat := [1120, 1122, 1124, 1126, 1128, 1130, 1132, 1134]
def gLy1 : List Nat := [2071, 2073, 2075, 2077, 2079, 2081, 2083, 2085, 2087, 2089, 2091, 2093, 2095, 2097, 2099, 2101, 2103, 2105, 2107]
def gLy2 : List Nat := [2193, 2195, 2197, 2199, 2201, 2203, 2205, 2207, 2209]
def gLy3 : List Nat := [1091, 1093, 1095, 1097, 1099]
def gLy4 : List Nat := [2127, 2129, 2131, 2133, 2135, 2137, 2139, 2141, 2143, 2145, 2147, 2149, 2151, 2153, 2155, 2157]
def gLy5 : List Nat := [1051, 1053, 1055, 1057, 1059, 1061, 1063, 1065, 1067, 1069, 1071, 1073]
def gLy6 : List Nat := [4065, 4067, 4069, 4071, 4073]
def gLy7 : List Nat := [4217, 4219, 4221, 4223, 4225, 4227, 4229, 4231, 4233, 4235, 4237, 4239, 5001]
def gLy8 : List Nat := [1216, 1218, 1220, 1222, 1224]
def gLy9 : List Nat := [2226, 2228, 2230, 2232, 2234, 2236, 2238, 3000]
def gLy10 : List Nat := [2177, 2179, 2181]
def gLy11 : List Nat := [3017, 3019, 3021, 3023, 3025, 3027, 3029, 3031, 3033, 3035, 3037, 3039]
def gLy12 : List Nat := [7122, 7124, 7126, 7128, 7130, 7132, 7134, 7136, 7138, 7140, 7142, 7144, 7146, 7148, 7150, 7152, 7154, 7156, 7158, 7160, 7162, 7164, 7166, 7168, 7170, 7172, 7174, 7176, 7178, 7180, 7182, 7184, 7186, 7188, 7190, 7192, 7194, 7196, 7198, 7200, 7202, 7204, 7206, 7208, 7210, 7212, 7214, 7216, 7218, 7220, 7222, 7224, 7226, 7228, 7230, 7232, 7234, 7236, 7238, 8000, 8002, 8004, 8006, 8008, 8010, 8012, 8014, 8016, 8018, 8020, 8022, 8024, 8026, 8028, 8030, 8032, 8034, 8036, 8038, 8040, 8042, 8044, 8046, 8048, 8050, 8052, 8054, 8056, 8058, 8060, 8062, 8064, 8066, 8068, 8070, 8072, 8074, 8076, 8078, 8080, 8082, 8084, 8086, 8088]
def gLy : Nat → List Nat := fun k => match k with
  | 0 => gLy0
  | 1 => gLy1
  | 2 => gLy2
  | 3 => gLy3
  | 4 => gLy4
  | 5 => gLy5
  | 6 => gLy6
  | 7 => gLy7
  | 8 => gLy8
  | 9 => gLy9
  | 10 => gLy10
  | 11 => gLy11
  | _ => gLy12
def gLyChk (k : Nat) : Bool := (List.range (gN k)).all (fun f => gHas ((gLy k).getD f 0) (u_lay (gCn k) (gT k) f) && (decide (parseFieldDescriptor (gT k f).2.2.1 = some (gYt k f)) && (List.range (gN k)).all (fun f2 => Nat.beq f f2 || decide ((gT k f).2.1 ≠ (gT k f2).2.1))))
set_option maxRecDepth 1000000 in
theorem gLyChk_0 : gLyChk 0 = true := by decide +kernel
set_option maxRecDepth 1000000 in
theorem gLyChk_1 : gLyChk 1 = true := by decide +kernel
set_option maxRecDepth 1000000 in
theorem gLyChk_2 : gLyChk 2 = true := by decide +kernel
set_option maxRecDepth 1000000 in
theorem gLyChk_3 : gLyChk 3 = true := by decide +kernel
set_option maxRecDepth 1000000 in
theorem gLyChk_4 : gLyChk 4 = true := by decide +kernel
set_option maxRecDepth 1000000 in
theorem gLyChk_5 : gLyChk 5 = true := by decide +kernel
set_option maxRecDepth 1000000 in
theorem gLyChk_6 : gLyChk 6 = true := by decide +kernel
set_option maxRecDepth 1000000 in
theorem gLyChk_7 : gLyChk 7 = true := by decide +kernel
set_option maxRecDepth 1000000 in
theorem gLyChk_8 : gLyChk 8 = true := by decide +kernel
set_option maxRecDepth 1000000 in
theorem gLyChk_9 : gLyChk 9 = true := by decide +kernel
set_option maxRecDepth 1000000 in
theorem gLyChk_10 : gLyChk 10 = true := by decide +kernel
set_option maxRecDepth 1000000 in
theorem gLyChk_11 : gLyChk 11 = true := by decide +kernel
set_option maxRecDepth 1000000 in
theorem gLyChk_12 : gLyChk 12 = true := by decide +kernel
theorem gLyChk_all : (List.range 13).all gLyChk = true := by
  rw [show List.range 13 = [0, 1, 2, 3, 4, 5, 6, 7, 8, 9, 10, 11, 12] by decide]
  simp only [List.all_cons, List.all_nil, gLyChk_0, gLyChk_1, gLyChk_2, gLyChk_3, gLyChk_4, gLyChk_5, gLyChk_6, gLyChk_7, gLyChk_8, gLyChk_9, gLyChk_10, gLyChk_11, gLyChk_12, Bool.and_self]
theorem gLay {k : Nat} (hk : k < 13) {f : Nat} (hf : f < gN k) : u_lay (gCn k) (gT k) f ∈ gTB ∧ parseFieldDescriptor (gT k f).2.2.1 = some (gYt k f) ∧ ∀ f2, f2 < gN k → f ≠ f2 → (gT k f).2.1 ≠ (gT k f2).2.1 := by
  have h1 := List.all_eq_true.mp gLyChk_all k (List.mem_range.mpr hk)
  have h2 := List.all_eq_true.mp h1 f (List.mem_range.mpr hf)
  rw [Bool.and_eq_true, Bool.and_eq_true] at h2
  refine ⟨gHas.mem h2.1, of_decide_eq_true h2.2.1, fun f2 hf2 hne => ?_⟩
  have h3 := List.all_eq_true.mp h2.2.2 f2 (List.mem_range.mpr hf2)
  rw [Bool.or_eq_true] at h3
  rcases h3 with h3 | h3
  · exact absurd (Nat.eq_of_beq_eq_true h3) hne
  · exact of_decide_eq_true h3
theorem gLayIn {k : Nat} (hk : k < 13) : ∀ w ∈ u_ws (gCn k) (gT k) (gN k), w ∈ gTB := by
  intro w hw
  obtain ⟨f, hf, rfl⟩ := List.mem_map.mp hw
  exact (gLay hk (List.mem_range.mp hf)).1
theorem gApart {G : gG} {U : State} (hT : gTb U) (hK : gKm G U) {k : Nat} (hk : k < 13) : ∀ x y, x < gN k → y < gN k → x ≠ y → G.2.2.2.2.1 k x ≠ G.2.2.2.2.1 k y := by
  intro x y hx hy hne
  obtain ⟨_, _, _, fa, hia, -, ea⟩ := hK.2.2 k (by omega) x hx
  obtain ⟨_, _, _, fb, hib, -, eb⟩ := hK.2.2 k (by omega) y hy
  rw [← ea, ← eb]
  have hts : ∀ w ∈ gTB, w.before #[] U = true := fun w hw => hT.use hw #[]
  refine u_apart (u_lays hts (gLayIn hk) hx) (u_lays hts (gLayIn hk) hy) hia hib ?_
  rw [(State.fieldFound?_type hia (gLay hk hx).2.1).1, (State.fieldFound?_type hib (gLay hk hy).2.1).1]
  exact (gLay hk hx).2.2 y hy hne
theorem gad_in {G : gG} {i : Nat} (h : G.1 ≤ i) : G.2.1 ≤ gad G i := by rw [gad_own h]; omega
theorem grv_default (G : gG) (ty : FieldType) : grv G (defaultValue ty) = defaultValue ty := by cases ty <;> rfl
section GHEAP
variable {G : gG} {l : Launch} {p : Program} {e : Env} {R : Room} {s : State} {m : MethodId} {args : Array Value} {below : List Frame} {meth : Method} {c : Code} {Q : State → Prop} {own name : String} {cc : ByteArray} {nL L0 S0 pc a b d : Nat} {rt : Option FieldType} {o : gO} {v : Int} {ts : List Nat} {lv : gL} {st : List Value} {lh : gH} {K : Nat → gL → List Value → gH → Option gO} {C : Nat → List Value → gH → Option gO}
theorem gw_get (hK : ∀ pc lv st lh, K pc lv st lh = some o → gOk G l p e R s m args below meth c Q own name cc d nL L0 S0 rt o pc lv st lh) {n : Nat} (hdg : decode cc pc = .ok (.getfield n, 3)) (ha : a < 14) (hck : gckF own n a b ts = true) (h : gI_get K pc a b lv st lh = some o) : gOk G l p e R s m args below meth c Q own name cc d nL L0 S0 rt o pc lv st lh := by
  unfold gI_get at h
  split at h
  · rename_i i r
    split at h
    · rename_i ob hi
      obtain ⟨k, f⟩ := ob
      cases hq : Nat.beq k a with
      | false => dsimp only at h; rw [hq] at h; cases h
      | true =>
        dsimp only at h
        rw [hq] at h
        have hka : k = a := Nat.eq_of_beq_eq_true hq
        subst hka
        refine ⟨(hK _ _ _ _ h).1, fun X hE H locs cells slots ls hR hS hl h1 h2 => ?_⟩
        obtain ⟨hx, hb, hml, hown, hks, hG, hnm, hfr, hlo, hcc, hss⟩ := id X
        unfold gckF at hck
        rw [Bool.and_eq_true, Bool.or_eq_true] at hck
        have hb' : b < gN k := Nat.blt_eq.mp hck.1
        obtain ⟨-, cell, c1, c2, c3, c4, c5, c6⟩ := hR.2.2.2 i _ hi
        obtain ⟨cf, kf, fi, fd, f1, f2, f3⟩ := hks.2.1.2.2 k ha b hb'
        have c7 := c6 b hb'
        rw [← f3] at c7
        rcases hck.2 with hw | hw
        · refine W.getf hx hb hown (hks.1.use (gHas.mem hw) args) f1 f2 c1 c3 c7 rfl rfl hdg ?_
          exact (hK _ _ _ _ h).2 X hE _ _ _ _ _ hR hS hl h1 h2
        · refine va_Wgetf hx hb hown (hks.1.use (gHas.mem hw) args) f1 f2 c1 c3 c7 rfl rfl hdg ?_
          exact (hK _ _ _ _ h).2 X hE _ _ _ _ _ hR hS hl h1 h2
    all_goals cases h
  all_goals cases h
theorem gw_put (hK : ∀ pc lv st lh, K pc lv st lh = some o → gOk G l p e R s m args below meth c Q own name cc d nL L0 S0 rt o pc lv st lh) {n : Nat} (hdg : decode cc pc = .ok (.putfield n, 3)) (ha : a < 13) (hck : gckF own n a b ts = true) (hcp : gckP own name n a b ts = true) (h : gI_put K pc a b lv st lh = some o) : gOk G l p e R s m args below meth c Q own name cc d nL L0 S0 rt o pc lv st lh := by
  unfold gI_put at h
  split at h
  · rename_i w i r
    split at h
    · rename_i ob hi
      obtain ⟨k, f⟩ := ob
      dsimp only at h
      cases hq : (Nat.beq k a && (gFit (gYt a b) w && Nat.ble 7 i)) with
      | false => rw [hq] at h; cases h
      | true =>
        rw [hq] at h
        rw [Bool.and_eq_true, Bool.and_eq_true] at hq
        have hka : k = a := Nat.eq_of_beq_eq_true hq.1
        subst hka
        obtain ⟨hn, hfit⟩ := gFit_ok (G := G) hq.2.1
        have hm := (hK _ _ _ _ h).1
        rw [List.length_set, gsz_set hi (by rfl)] at hm
        refine ⟨hm, fun X hE H locs cells slots ls hR hS hl h1 h2 => ?_⟩
        obtain ⟨hx, hb, hml, hown, hks, hG, hnm, hfr, hlo, hcc, hss⟩ := id X
        have hi7 : G.1 ≤ i := by rw [hG]; exact Nat.le_of_ble_eq_true hq.2.2
        unfold gckF at hck
        rw [Bool.and_eq_true, Bool.or_eq_true] at hck
        have hb' : b < gN k := Nat.blt_eq.mp hck.1
        obtain ⟨c0, cell, c1, c2, c3, c4, c5, c6⟩ := hR.2.2.2 i _ hi
        obtain ⟨cf, kf, fi, fd, f1, f2, f3⟩ := hks.2.1.2.2 k (by omega) b hb'
        obtain ⟨hfc, kC, hkC, hkind⟩ := hks.2.1.2.1 k (by omega)
        have c7 := c6 b hb'
        have hlt : fd.slot < cell.slots.size := by rw [f3]; exact k2_hasslot c7
        have hap := gApart hks.1 hks.2.1 ha
        have hlay := hks.1.use (gLay ha hb').1 args
        have hd := (gLay ha hb').2.1
        have fin : ∀ H' : Heap, H'[gad G i]? = some (cell.setSlot fd.slot (grv G w)) → H'.size = H.size → (∀ q, q ≠ gad G i → H'[q]? = H[q]?) → W p l e R s m args below meth c H' (locs ++ [⟨gad G i, fd.slot⟩]) cells slots Q (F0 m (pc + 3) ls (r.map (grv G))) := by
          intro H' e1 e2 e3
          refine (hK _ _ _ _ h).2 X hE _ _ _ _ _ (hR.set hi7 ?_ e2 e3) (hS.put e2 e3 (gad_in hi7)) hl (by rw [List.length_set]; exact h1) (by rw [gsz_set hi (by rfl)]; exact h2)
          refine ⟨c0, _, e1, c2, c3, c4, c5, fun j hj => ?_⟩
          rw [f3]
          have h9 := t_set c6 hap hb' (grv G w) j hj
          rw [h9]
          show some (updV (fun j => grv G (f j)) b (grv G w) j) = some (grv G (gup f b w j))
          rw [gup_at]
        unfold u_lay at hlay
        cases hf : (gT k b).2.2.2 with
        | false =>
          rw [hf, if_neg (by decide)] at hlay
          have h6 := u_store hfc hkC hkind hlay f1 hd hn hfit
          rcases hck.2 with hw | hw
          · exact W.putK hx hb (f := fd) ⟨hown, hks.1.use (gHas.mem hw) args, ⟨_, _, _, f1⟩, f2⟩ (by rw [c2]; exact h6) c1 (c5 hi7).1 hlt rfl rfl hdg fin
          · exact va_WputK hx hb hown (hks.1.use (gHas.mem hw) args) f1 f2 (by rw [c2]; exact h6) c1 (c5 hi7).1 hlt rfl rfl hdg fin
        | true =>
          rw [hf, if_pos rfl] at hlay
          unfold gckP at hcp
          rw [hf] at hcp
          dsimp only [cond_true] at hcp
          rw [Bool.and_eq_true, Bool.and_eq_true, decide_eq_true_eq, decide_eq_true_eq] at hcp
          have hcf : m.cls = cf := by
            obtain ⟨_, _, c', _, _, _, -, -, hf', -, -, -, hown2, -⟩ := Cond.laysFinal_spec hlay
            have e1 : c' = cf := by have := f1.symm.trans hf'; simp at this; exact this.1.symm
            rw [hcp.2.2] at hown2
            rw [← e1]; exact Option.some.inj (hown.symm.trans hown2)
          have h6 := u_fits hfc hkC hkind (Or.inr hlay) f1 hd hn hfit
          exact W.putFinK hx hb hown (hks.1.use (gHas.mem hcp.1) args) f1 f2 hcf (hnm hcp.2.1) (by rw [c2]; exact h6) c1 (c5 hi7).1 hlt rfl rfl hdg fin
    all_goals cases h
  all_goals cases h
theorem gw_gets (hK : ∀ pc lv st lh, K pc lv st lh = some o → gOk G l p e R s m args below meth c Q own name cc d nL L0 S0 rt o pc lv st lh) {n : Nat} (hdg : decode cc pc = .ok (.getstatic n, 3)) {t : Nat} (hck : (bif Nat.beq a 0 then gHas t (.fieldLink own n "java/lang/String" "COMPACT_STRINGS" "Z") else gHas t (.fieldLink own n "jdk/internal/util/Preconditions" "SIOOBE_FORMATTER" "Ljava/util/function/BiFunction;")) = true) (h : gI_gets K pc a lv st lh = some o) : gOk G l p e R s m args below meth c Q own name cc d nL L0 S0 rt o pc lv st lh := by
  unfold gI_gets at h
  cases ha : Nat.beq a 0 with
  | true =>
    rw [ha] at h hck
    dsimp only [cond_true] at h hck
    refine ⟨(hK _ _ _ _ h).1, fun X hE H locs cells slots ls hR hS hl h1 h2 => ?_⟩
    obtain ⟨hx, hb, hml, hown, hks, hG, hnm, hfr, hlo, hcc, hss⟩ := id X
    refine va_gets hx hb hks.2.2.2.1 hS hown (hks.1.use (gHas.mem hck) args) (fun _ z => z) hdg ?_
    exact (hK _ _ _ _ h).2 X hE _ _ _ _ _ hR hS hl h1 h2
  | false =>
    rw [ha] at h hck
    dsimp only [cond_false] at h hck
    refine ⟨(hK _ _ _ _ h).1, fun X hE H locs cells slots ls hR hS hl h1 h2 => ?_⟩
    obtain ⟨hx, hb, hml, hown, hks, hG, hnm, hfr, hlo, hcc, hss⟩ := id X
    refine va_gets hx hb hks.2.2.2.2 hS hown (hks.1.use (gHas.mem hck) args) (fun _ z => z) hdg ?_
    exact (hK _ _ _ _ h).2 X hE _ _ _ _ _ hR hS hl h1 h2
theorem gw_new (hK : ∀ pc lv st lh, K pc lv st lh = some o → gOk G l p e R s m args below meth c Q own name cc d nL L0 S0 rt o pc lv st lh) {n : Nat} (hdg : decode cc pc = .ok (.new n, 3)) (ha : a < 13) (hw1 : Cond.classLink own n (gCn a) ∈ gTB) (hw2 : Cond.instantiable (gCn a) (gN a) ∈ gTB) (hw3 : Cond.initialized (gCn a) ∈ gTB) (h : gI_new K pc a lv st lh = some o) : gOk G l p e R s m args below meth c Q own name cc d nL L0 S0 rt o pc lv st lh := by
  unfold gI_new at h
  have hm := (hK _ _ _ _ h).1
  rw [List.length_append, gsz_push] at hm
  have hm1 : lh.length + 1 ≤ o.1.length := hm.2.1
  have hm2 : gsz lh + gN a ≤ gsz o.1 := hm.2.2
  refine ⟨⟨hm.1, by omega, by omega⟩, fun X hE H locs cells slots ls hR hS hl h1 h2 => ?_⟩
  obtain ⟨hx, hb, hml, hown, hks, hG, hnm, hfr, hlo, hcc, hss⟩ := id X
  obtain ⟨hfc, kC0, hkC0, hkind⟩ := hks.2.1.2.1 a (by omega)
  refine W.newcK hx hb hown (hks.1.use hw1 args) (hks.1.use hw2 args) (hks.1.use hw3 args) rfl hdg (by omega) (by omega) hfc rfl fun H' kC hkC e1 e2 e3 => ?_
  have hts : ∀ w ∈ gTB, w.before args s = true := fun w hw => hks.1.use hw args
  have hR' : gR G s (lh ++ [.inl (a, fun j => defaultValue (gYt a j))]) H' := by
    refine hR.push ?_ e2 e3
    refine ⟨by show a < 14; omega, _, by rw [hR.top]; exact e1, rfl, (fun z => by cases z), rfl, fun _ => ⟨rfl, ha⟩, fun j hj => ?_⟩
    obtain ⟨cf, kf, fi, fd, f1, f2, f3⟩ := hks.2.1.2.2 a (by omega) j hj
    have h3 := (u_facts hfc hkC (u_lays hts (gLayIn ha) hj) f1).2.2
    rw [(State.fieldFound?_type f1 (gLay ha hj).2.1).2] at h3
    rw [← f3]
    show _ = some (grv G (defaultValue (gYt a j)))
    rw [grv_default]
    exact k2_blank h3
  have hS' : va_S (fun q => G.2.1 ≤ q) s.heap H' locs := ⟨by rw [e2]; exact Nat.le_succ_of_le hS.1, fun q q1 q2 => by rw [e3 q (Nat.lt_of_lt_of_le q1 hS.1)]; exact hS.2.1 q q1 q2, hS.2.2⟩
  have hk := (hK _ _ _ _ h).2 X hE H' locs (cells + 1) (slots + gN a) ls hR' hS' hl (by rw [List.length_append]; show cells + 1 + L0 = lh.length + 1; omega) (by rw [gsz_push]; show slots + gN a + S0 = gsz lh + gN a; omega)
  rw [List.map_cons, grv_ref, hR.top] at hk
  exact hk
theorem gTy_prim {a : Nat} (ha : a < 4) {U : State} {cA : ClassId} (h : U.vm.findClass ("[" ++ (gTy a).toString) = some cA) : va_RA U cA (gTy a) := by
  rcases (show a = 0 ∨ a = 1 ∨ a = 2 ∨ a = 3 by omega) with rfl | rfl | rfl | rfl <;> exact h
theorem gTy_bytes {a : Nat} (ha : a < 4) : componentBytes (gTy a) ≤ 8 := by
  rcases (show a = 0 ∨ a = 1 ∨ a = 2 ∨ a = 3 by omega) with rfl | rfl | rfl | rfl <;> decide
theorem gTy_obj {a : Nat} (h3 : 3 < a) (h7 : a < 7) : gTy a = .object (gCn (gEl a)) ∧ gEl a < 13 := by
  rcases (show a = 4 ∨ a = 5 ∨ a = 6 by omega) with rfl | rfl | rfl <;> exact ⟨rfl, by decide⟩
theorem gTy_ref {a : Nat} (h3 : 3 < a) (h7 : a < 7) : (gTy a).isReference = true := by
  rcases (show a = 4 ∨ a = 5 ∨ a = 6 by omega) with rfl | rfl | rfl <;> rfl
theorem gR_arr {G : gG} {U : State} {lh : gH} {H H1 : Heap} (h : gR G U lh H) {a N : Nat} {cA : ClassId} {x : Value} (ha : a < 7) (hx : grv G x = x) (e1 : H1[H.size]? = some (arrV cA N (fun _ => x))) (e2 : H1.size = H.size + 1) (e3 : ∀ q, q < H.size → H1[q]? = H[q]?) (hA : ArrOfT U cA (gTy a)) (hV : va_RA U cA (gTy a)) : gR G U (lh ++ [.inr (a, N, fun _ => x)]) H1 := by
  refine h.push ?_ e2 e3
  refine ⟨ha, _, by rw [h.top]; exact e1, hA _ _, (fun z => by cases z), by rw [arrV_size]; exact Nat.le_refl _, by rw [arrV_size], fun j hj => ?_, fun _ => ⟨rfl, hV⟩⟩
  rw [arrV_read cA _ hj]
  show some x = some (grv G x)
  rw [hx]
theorem gw_newa (hK : ∀ pc lv st lh, K pc lv st lh = some o → gOk G l p e R s m args below meth c Q own name cc d nL L0 S0 rt o pc lv st lh) {t : ArrayType} (hdg : decode cc pc = .ok (.newarray t, 2)) (ha : a < 4) (hty : newarray.typeOf t = gTy a) (hw1 : Cond.arrayClass (newarray.typeOf t) ∈ gTB) (h : gI_newa K pc a lv st lh 2 = some o) : gOk G l p e R s m args below meth c Q own name cc d nL L0 S0 rt o pc lv st lh := by
  unfold gI_newa at h
  split at h
  · rename_i x r
    cases hq : (!decide (x < 0) && Nat.ble x.toNatClampNeg 65536) with
    | false => rw [hq] at h; cases h
    | true =>
      rw [hq] at h
      rw [Bool.and_eq_true, Bool.not_eq_true', decide_eq_false_iff_not] at hq
      have hm := (hK _ _ _ _ h).1
      rw [List.length_append, gsz_push] at hm
      have hm1 : lh.length + 1 ≤ o.1.length := hm.2.1
      have hm2 : gsz lh + x.toNatClampNeg ≤ gsz o.1 := hm.2.2
      refine ⟨⟨hm.1, by omega, by omega⟩, fun X hE H locs cells slots ls hR hS hl h1 h2 => ?_⟩
      obtain ⟨hx, hb, hml, hown, hks, hG, hnm, hfr, hlo, hcc, hss⟩ := id X
      have hby : x.toNatClampNeg * componentBytes (newarray.typeOf t) ≤ 536870912 := by
        rw [hty]
        exact Nat.le_trans (Nat.mul_le_mul (Nat.le_of_ble_eq_true hq.2) (gTy_bytes ha)) (by decide)
      refine va_newaK hx hb (hks.1.use hw1 args) rfl hdg rfl hq.1 rfl hby (by omega) (by omega) rfl fun H' cA e1 e2 e3 hAr hNm => ?_
      rw [hty] at e1 hAr hNm
      have hR' := gR_arr hR (by omega) (grv_default G (gTy a)) e1 e2 e3 hAr (gTy_prim ha hNm)
      have hS' : va_S (fun q => G.2.1 ≤ q) s.heap H' locs := ⟨by rw [e2]; exact Nat.le_succ_of_le hS.1, fun q q1 q2 => by rw [e3 q (Nat.lt_of_lt_of_le q1 hS.1)]; exact hS.2.1 q q1 q2, hS.2.2⟩
      have hk := (hK _ _ _ _ h).2 X hE H' locs (cells + 1) (slots + x.toNatClampNeg) ls hR' hS' hl (by rw [List.length_append]; show cells + 1 + L0 = lh.length + 1; omega) (by rw [gsz_push]; show slots + x.toNatClampNeg + S0 = gsz lh + x.toNatClampNeg; omega)
      rw [List.map_cons, grv_ref, hR.top] at hk
      exact hk
  all_goals cases h
theorem gw_anew (hK : ∀ pc lv st lh, K pc lv st lh = some o → gOk G l p e R s m args below meth c Q own name cc d nL L0 S0 rt o pc lv st lh) {n : Nat} (hdg : decode cc pc = .ok (.anewarray n, 3)) (h3a : 3 < a) (ha : a < 7) (hw1 : Cond.classLink own n (gCn (gEl a)) ∈ gTB) (hw2 : Cond.arrayOver (.object (gCn (gEl a))) ∈ gTB) (h : gI_newa K pc a lv st lh 3 = some o) : gOk G l p e R s m args below meth c Q own name cc d nL L0 S0 rt o pc lv st lh := by
  unfold gI_newa at h
  split at h
  · rename_i x r
    cases hq : (!decide (x < 0) && Nat.ble x.toNatClampNeg 65536) with
    | false => rw [hq] at h; cases h
    | true =>
      rw [hq] at h
      rw [Bool.and_eq_true, Bool.not_eq_true', decide_eq_false_iff_not] at hq
      have hm := (hK _ _ _ _ h).1
      rw [List.length_append, gsz_push] at hm
      have hm1 : lh.length + 1 ≤ o.1.length := hm.2.1
      have hm2 : gsz lh + x.toNatClampNeg ≤ gsz o.1 := hm.2.2
      refine ⟨⟨hm.1, by omega, by omega⟩, fun X hE H locs cells slots ls hR hS hl h1 h2 => ?_⟩
      obtain ⟨hx, hb, hml, hown, hks, hG, hnm, hfr, hlo, hcc, hss⟩ := id X
      obtain ⟨ht, hel⟩ := gTy_obj h3a ha
      have hdv : defaultValue (gTy a) = .null := by rw [ht]; rfl
      refine W.anew hx hb hown (hks.1.use hw1 args) (hks.1.use hw2 args) rfl hdg rfl hq.1 (Nat.le_trans (Nat.mul_le_mul_right 4 (Nat.le_of_ble_eq_true hq.2)) (by decide)) (by omega) (by omega) fun cA kA comp f1 f2 f3 f4 => ?_
      generalize hH1 : H.push ({ cls := cA, slots := Array.replicate x.toNatClampNeg .null, vm := .none } : Cell) = H'
      have e2 : H'.size = H.size + 1 := by rw [← hH1, Array.size_push]
      have e1 : H'[H.size]? = some (arrV cA x.toNatClampNeg (fun _ => defaultValue (gTy a))) := by rw [hdv, ← hH1, Array.getElem?_push_size, ← arrV_new]
      have e3 : ∀ q : Nat, q < H.size → H'[q]? = H[q]? := fun q hq => by rw [← hH1, Array.getElem?_push, if_neg (Nat.ne_of_lt hq)]
      have hAr : ArrOfT s cA (gTy a) := by rw [ht]; exact fun N z => ⟨(fun k h => by cases h), kA, f2, comp, f3⟩
      have hV : va_RA s cA (gTy a) := by rw [ht]; exact ⟨kA, comp, f2, f3, f4, f1⟩
      have hR' := gR_arr hR ha (grv_default G (gTy a)) e1 e2 e3 hAr hV
      have hS' : va_S (fun q => G.2.1 ≤ q) s.heap H' locs := ⟨by rw [e2]; exact Nat.le_succ_of_le hS.1, fun q q1 q2 => by rw [e3 q (Nat.lt_of_lt_of_le q1 hS.1)]; exact hS.2.1 q q1 q2, hS.2.2⟩
      have hk := (hK _ _ _ _ h).2 X hE H' locs (cells + 1) (slots + x.toNatClampNeg) ls hR' hS' hl (by rw [List.length_append]; show cells + 1 + L0 = lh.length + 1; omega) (by rw [gsz_push]; show slots + x.toNatClampNeg + S0 = gsz lh + x.toNatClampNeg; omega)
      rw [List.map_cons, grv_ref, hR.top] at hk
      exact hk
  all_goals cases h
theorem gw_len (hK : ∀ pc lv st lh, K pc lv st lh = some o → gOk G l p e R s m args below meth c Q own name cc d nL L0 S0 rt o pc lv st lh) (hdg : decode cc pc = .ok (.arraylength, 1)) (h : gI_len K pc lv st lh = some o) : gOk G l p e R s m args below meth c Q own name cc d nL L0 S0 rt o pc lv st lh := by
  unfold gI_len at h
  split at h
  · rename_i i r
    split at h
    · rename_i y hi
      refine ⟨(hK _ _ _ _ h).1, fun X hE H locs cells slots ls hR hS hl h1 h2 => ?_⟩
      obtain ⟨hx, hb, hml, hown, hks, hG, hnm, hfr, hlo, hcc, hss⟩ := id X
      obtain ⟨c0, cell, c1, c2, c3, c4, c5, c6, c7⟩ := hR.2.2.2 i _ hi
      refine W.alen hx hb c1 c2 c5 rfl rfl hdg ?_
      exact (hK _ _ _ _ h).2 X hE _ _ _ _ _ hR hS hl h1 h2
    all_goals cases h
  all_goals cases h
theorem gw_iald (hK : ∀ pc lv st lh, K pc lv st lh = some o → gOk G l p e R s m args below meth c Q own name cc d nL L0 S0 rt o pc lv st lh) (hdg : decode cc pc = .ok (.iaload, 1)) (h : gI_ald K pc lv st lh (fun t => Nat.beq t 0) = some o) : gOk G l p e R s m args below meth c Q own name cc d nL L0 S0 rt o pc lv st lh := by
  unfold gI_ald at h
  split at h
  · rename_i x i r
    split at h
    · rename_i y hi
      obtain ⟨t, n, f⟩ := y
      dsimp only at h
      cases hq : (Nat.beq t 0 && gIn x n) with
      | false => rw [hq] at h; cases h
      | true =>
        rw [hq] at h
        rw [Bool.and_eq_true] at hq
        refine ⟨(hK _ _ _ _ h).1, fun X hE H locs cells slots ls hR hS hl h1 h2 => ?_⟩
        obtain ⟨hx, hb, hml, hown, hks, hG, hnm, hfr, hlo, hcc, hss⟩ := id X
        obtain ⟨c0, cell, c1, c2, c3, c4, c5, c6, c7⟩ := hR.2.2.2 i _ hi
        obtain ⟨hin, hlt⟩ := gIn_ok hq.2 c4
        have hv := c6 _ hlt
        have ht : t = 0 := Nat.eq_of_beq_eq_true hq.1
        subst ht
        refine W.iald hx hb c1 c2 c3 hin hv rfl rfl hdg ?_
        exact (hK _ _ _ _ h).2 X hE _ _ _ _ _ hR hS hl h1 h2
    all_goals cases h
  all_goals cases h
theorem gw_lald (hK : ∀ pc lv st lh, K pc lv st lh = some o → gOk G l p e R s m args below meth c Q own name cc d nL L0 S0 rt o pc lv st lh) (hdg : decode cc pc = .ok (.laload, 1)) (h : gI_ald K pc lv st lh (fun t => Nat.beq t 1) = some o) : gOk G l p e R s m args below meth c Q own name cc d nL L0 S0 rt o pc lv st lh := by
  unfold gI_ald at h
  split at h
  · rename_i x i r
    split at h
    · rename_i y hi
      obtain ⟨t, n, f⟩ := y
      dsimp only at h
      cases hq : (Nat.beq t 1 && gIn x n) with
      | false => rw [hq] at h; cases h
      | true =>
        rw [hq] at h
        rw [Bool.and_eq_true] at hq
        refine ⟨(hK _ _ _ _ h).1, fun X hE H locs cells slots ls hR hS hl h1 h2 => ?_⟩
        obtain ⟨hx, hb, hml, hown, hks, hG, hnm, hfr, hlo, hcc, hss⟩ := id X
        obtain ⟨c0, cell, c1, c2, c3, c4, c5, c6, c7⟩ := hR.2.2.2 i _ hi
        obtain ⟨hin, hlt⟩ := gIn_ok hq.2 c4
        have hv := c6 _ hlt
        have ht : t = 1 := Nat.eq_of_beq_eq_true hq.1
        subst ht
        refine W.lald hx hb c1 c2 c3 hin hv rfl rfl hdg ?_
        exact (hK _ _ _ _ h).2 X hE _ _ _ _ _ hR hS hl h1 h2
    all_goals cases h
  all_goals cases h
theorem gw_bald (hK : ∀ pc lv st lh, K pc lv st lh = some o → gOk G l p e R s m args below meth c Q own name cc d nL L0 S0 rt o pc lv st lh) (hdg : decode cc pc = .ok (.baload, 1)) (h : gI_ald K pc lv st lh (fun t => Nat.beq t 2 || Nat.beq t 3) = some o) : gOk G l p e R s m args below meth c Q own name cc d nL L0 S0 rt o pc lv st lh := by
  unfold gI_ald at h
  split at h
  · rename_i x i r
    split at h
    · rename_i y hi
      obtain ⟨t, n, f⟩ := y
      dsimp only at h
      cases hq : ((Nat.beq t 2 || Nat.beq t 3) && gIn x n) with
      | false => rw [hq] at h; cases h
      | true =>
        rw [hq] at h
        rw [Bool.and_eq_true] at hq
        refine ⟨(hK _ _ _ _ h).1, fun X hE H locs cells slots ls hR hS hl h1 h2 => ?_⟩
        obtain ⟨hx, hb, hml, hown, hks, hG, hnm, hfr, hlo, hcc, hss⟩ := id X
        obtain ⟨c0, cell, c1, c2, c3, c4, c5, c6, c7⟩ := hR.2.2.2 i _ hi
        obtain ⟨hin, hlt⟩ := gIn_ok hq.2 c4
        have hv := c6 _ hlt
        have ht := hq.1
        rw [Bool.or_eq_true] at ht
        rcases ht with ht | ht
        · have ht : t = 2 := Nat.eq_of_beq_eq_true ht
          subst ht
          refine W.bald hx hb c1 c2 c3 hin hv rfl rfl hdg ?_
          exact (hK _ _ _ _ h).2 X hE _ _ _ _ _ hR hS hl h1 h2
        · have ht : t = 3 := Nat.eq_of_beq_eq_true ht
          subst ht
          refine W.zald hx hb c1 c2 c3 hin hv rfl rfl hdg ?_
          exact (hK _ _ _ _ h).2 X hE _ _ _ _ _ hR hS hl h1 h2
    all_goals cases h
  all_goals cases h
theorem gw_aald (hK : ∀ pc lv st lh, K pc lv st lh = some o → gOk G l p e R s m args below meth c Q own name cc d nL L0 S0 rt o pc lv st lh) (hdg : decode cc pc = .ok (.aaload, 1)) (h : gI_ald K pc lv st lh (fun t => Nat.ble 4 t) = some o) : gOk G l p e R s m args below meth c Q own name cc d nL L0 S0 rt o pc lv st lh := by
  unfold gI_ald at h
  split at h
  · rename_i x i r
    split at h
    · rename_i y hi
      obtain ⟨t, n, f⟩ := y
      dsimp only at h
      cases hq : (Nat.ble 4 t && gIn x n) with
      | false => rw [hq] at h; cases h
      | true =>
        rw [hq] at h
        rw [Bool.and_eq_true] at hq
        refine ⟨(hK _ _ _ _ h).1, fun X hE H locs cells slots ls hR hS hl h1 h2 => ?_⟩
        obtain ⟨hx, hb, hml, hown, hks, hG, hnm, hfr, hlo, hcc, hss⟩ := id X
        obtain ⟨c0, cell, c1, c2, c3, c4, c5, c6, c7⟩ := hR.2.2.2 i _ hi
        obtain ⟨hin, hlt⟩ := gIn_ok hq.2 c4
        have hv := c6 _ hlt
        have ht : 4 ≤ t := Nat.le_of_ble_eq_true hq.1
        refine W.aald hx hb c1 c2 (gTy_ref ht c0) c3 hin hv rfl rfl hdg ?_
        exact (hK _ _ _ _ h).2 X hE _ _ _ _ _ hR hS hl h1 h2
    all_goals cases h
  all_goals cases h
theorem gArr_set {G : gG} {U : State} {lh : gH} {H H1 : Heap} {i t n k : Nat} {f : Nat → Value} {w : Value} {cell : Cell} (h : gR G U lh H) (hi7 : G.1 ≤ i) (hlt : k < n) (c0 : t < 7) (c2 : U.isArrayOf cell (gTy t)) (c3 : cell.vm ≠ .unknown) (c4 : n ≤ cell.slots.size) (c5 : cell.slots.size.toInt32 = Int32.ofNat n) (c6 : ∀ j, j < n → cell.slots[j]? = some (grv G (f j))) (c7 : G.1 ≤ i → cell.vm = .none ∧ va_RA U cell.cls (gTy t))
    (e1 : H1[gad G i]? = some (cell.setSlot k (grv G w))) (e2 : H1.size = H.size) (e3 : ∀ q, q ≠ gad G i → H1[q]? = H[q]?) : gR G U (lh.set i (.inr (t, n, gup f k w))) H1 := by
  have hz : (cell.setSlot k (grv G w)).slots.size = cell.slots.size := Array.size_setIfInBounds
  refine h.set hi7 ?_ e2 e3
  refine ⟨c0, _, e1, c2, c3, by rw [hz]; exact c4, by rw [hz]; exact c5, fun j hj => ?_, c7⟩
  show (cell.slots.setIfInBounds k (grv G w))[j]? = some (grv G (gup f k w j))
  rw [gup_at]
  unfold updV
  by_cases hjk : j = k
  · subst hjk
    have : j < cell.slots.size := Nat.lt_of_lt_of_le hj c4
    rw [if_pos rfl]
    simp [this]
  · rw [if_neg hjk, Array.getElem?_setIfInBounds_ne (Ne.symm hjk)]
    exact c6 j hj
theorem gw_iast (hK : ∀ pc lv st lh, K pc lv st lh = some o → gOk G l p e R s m args below meth c Q own name cc d nL L0 S0 rt o pc lv st lh) (hdg : decode cc pc = .ok (.iastore, 1)) (h : gI_ist K pc lv st lh (fun t => Nat.beq t 0) (fun _ w => .int w) = some o) : gOk G l p e R s m args below meth c Q own name cc d nL L0 S0 rt o pc lv st lh := by
  unfold gI_ist at h
  split at h
  · rename_i w x i r
    split at h
    · rename_i y hi
      obtain ⟨t, n, f⟩ := y
      dsimp only at h
      cases hq : (Nat.beq t 0 && (gIn x n && Nat.ble 7 i)) with
      | false => rw [hq] at h; cases h
      | true =>
        rw [hq] at h
        rw [Bool.and_eq_true, Bool.and_eq_true] at hq
        have hm := (hK _ _ _ _ h).1
        rw [List.length_set, gsz_set hi (by rfl)] at hm
        refine ⟨hm, fun X hE H locs cells slots ls hR hS hl h1 h2 => ?_⟩
        obtain ⟨hx, hb, hml, hown, hks, hG, hnm, hfr, hlo, hcc, hss⟩ := id X
        have hi7 : G.1 ≤ i := by rw [hG]; exact Nat.le_of_ble_eq_true hq.2.2
        obtain ⟨c0, cell, c1, c2, c3, c4, c5, c6, c7⟩ := hR.2.2.2 i _ hi
        obtain ⟨hin, hlt⟩ := gIn_ok hq.2.1 c4
        have ht : t = 0 := Nat.eq_of_beq_eq_true hq.1
        subst ht
        refine W.iast hx hb c1 c2 c3 hin rfl rfl hdg fun H' e1 e2 e3 => ?_
        exact (hK _ _ _ _ h).2 X hE _ _ _ _ _ (gArr_set hR hi7 hlt c0 c2 c3 c4 c5 c6 c7 e1 e2 e3) (hS.put e2 e3 (gad_in hi7)) hl (by rw [List.length_set]; exact h1) (by rw [gsz_set hi (by rfl)]; exact h2)
    all_goals cases h
  all_goals cases h
theorem gw_last (hK : ∀ pc lv st lh, K pc lv st lh = some o → gOk G l p e R s m args below meth c Q own name cc d nL L0 S0 rt o pc lv st lh) (hdg : decode cc pc = .ok (.lastore, 1)) (h : gI_last K pc lv st lh = some o) : gOk G l p e R s m args below meth c Q own name cc d nL L0 S0 rt o pc lv st lh := by
  unfold gI_last at h
  split at h
  · rename_i w x i r
    split at h
    · rename_i y hi
      obtain ⟨t, n, f⟩ := y
      dsimp only at h
      cases hq : (Nat.beq t 1 && (gIn x n && Nat.ble 7 i)) with
      | false => rw [hq] at h; cases h
      | true =>
        rw [hq] at h
        rw [Bool.and_eq_true, Bool.and_eq_true] at hq
        have hm := (hK _ _ _ _ h).1
        rw [List.length_set, gsz_set hi (by rfl)] at hm
        refine ⟨hm, fun X hE H locs cells slots ls hR hS hl h1 h2 => ?_⟩
        obtain ⟨hx, hb, hml, hown, hks, hG, hnm, hfr, hlo, hcc, hss⟩ := id X
        have hi7 : G.1 ≤ i := by rw [hG]; exact Nat.le_of_ble_eq_true hq.2.2
        obtain ⟨c0, cell, c1, c2, c3, c4, c5, c6, c7⟩ := hR.2.2.2 i _ hi
        obtain ⟨hin, hlt⟩ := gIn_ok hq.2.1 c4
        have ht : t = 1 := Nat.eq_of_beq_eq_true hq.1
        subst ht
        refine W.last hx hb c1 c2 c3 hin rfl rfl hdg fun H' e1 e2 e3 => ?_
        exact (hK _ _ _ _ h).2 X hE _ _ _ _ _ (gArr_set hR hi7 hlt c0 c2 c3 c4 c5 c6 c7 e1 e2 e3) (hS.put e2 e3 (gad_in hi7)) hl (by rw [List.length_set]; exact h1) (by rw [gsz_set hi (by rfl)]; exact h2)
    all_goals cases h
  all_goals cases h
theorem gw_bast (hK : ∀ pc lv st lh, K pc lv st lh = some o → gOk G l p e R s m args below meth c Q own name cc d nL L0 S0 rt o pc lv st lh) (hdg : decode cc pc = .ok (.bastore, 1)) (h : gI_ist K pc lv st lh (fun t => Nat.beq t 2 || Nat.beq t 3) (fun t w => narrow (gTy t) (.int w)) = some o) : gOk G l p e R s m args below meth c Q own name cc d nL L0 S0 rt o pc lv st lh := by
  unfold gI_ist at h
  split at h
  · rename_i w x i r
    split at h
    · rename_i y hi
      obtain ⟨t, n, f⟩ := y
      dsimp only at h
      cases hq : ((Nat.beq t 2 || Nat.beq t 3) && (gIn x n && Nat.ble 7 i)) with
      | false => rw [hq] at h; cases h
      | true =>
        rw [hq] at h
        rw [Bool.and_eq_true, Bool.and_eq_true] at hq
        have hm := (hK _ _ _ _ h).1
        rw [List.length_set, gsz_set hi (by rfl)] at hm
        refine ⟨hm, fun X hE H locs cells slots ls hR hS hl h1 h2 => ?_⟩
        obtain ⟨hx, hb, hml, hown, hks, hG, hnm, hfr, hlo, hcc, hss⟩ := id X
        have hi7 : G.1 ≤ i := by rw [hG]; exact Nat.le_of_ble_eq_true hq.2.2
        obtain ⟨c0, cell, c1, c2, c3, c4, c5, c6, c7⟩ := hR.2.2.2 i _ hi
        obtain ⟨hin, hlt⟩ := gIn_ok hq.2.1 c4
        have ht := hq.1
        rw [Bool.or_eq_true] at ht
        rcases ht with ht | ht
        · have ht : t = 2 := Nat.eq_of_beq_eq_true ht
          subst ht
          refine W.bast hx hb c1 c2 c3 hin rfl rfl hdg fun H' e1 e2 e3 => ?_
          exact (hK _ _ _ _ h).2 X hE _ _ _ _ _ (gArr_set hR hi7 hlt c0 c2 c3 c4 c5 c6 c7 e1 e2 e3) (hS.put e2 e3 (gad_in hi7)) hl (by rw [List.length_set]; exact h1) (by rw [gsz_set hi (by rfl)]; exact h2)
        · have ht : t = 3 := Nat.eq_of_beq_eq_true ht
          subst ht
          refine W.zast hx hb c1 c2 c3 hin rfl rfl hdg fun H' e1 e2 e3 => ?_
          exact (hK _ _ _ _ h).2 X hE _ _ _ _ _ (gArr_set hR hi7 hlt c0 c2 c3 c4 c5 c6 c7 e1 e2 e3) (hS.put e2 e3 (gad_in hi7)) hl (by rw [List.length_set]; exact h1) (by rw [gsz_set hi (by rfl)]; exact h2)
    all_goals cases h
  all_goals cases h
theorem gw_aast (hK : ∀ pc lv st lh, K pc lv st lh = some o → gOk G l p e R s m args below meth c Q own name cc d nL L0 S0 rt o pc lv st lh) (hdg : decode cc pc = .ok (.aastore, 1)) (h : gI_aast K pc lv st lh = some o) : gOk G l p e R s m args below meth c Q own name cc d nL L0 S0 rt o pc lv st lh := by
  unfold gI_aast at h
  split at h
  · rename_i w x i r
    split at h
    · rename_i y hi
      obtain ⟨t, n, f⟩ := y
      dsimp only at h
      split at h
      · rename_i ob hw
        obtain ⟨k, fv⟩ := ob
        dsimp only at h
        cases hq : (Nat.beq (gEl t) k && (gIn x n && Nat.ble 7 i)) with
        | false => rw [hq] at h; cases h
        | true =>
          rw [hq] at h
          rw [Bool.and_eq_true, Bool.and_eq_true] at hq
          have hm := (hK _ _ _ _ h).1
          rw [List.length_set, gsz_set hi (by rfl)] at hm
          refine ⟨hm, fun X hE H locs cells slots ls hR hS hl h1 h2 => ?_⟩
          obtain ⟨hx, hb, hml, hown, hks, hG, hnm, hfr, hlo, hcc, hss⟩ := id X
          have hi7 : G.1 ≤ i := by rw [hG]; exact Nat.le_of_ble_eq_true hq.2.2
          obtain ⟨c0, cell, c1, c2, c3, c4, c5, c6, c7⟩ := hR.2.2.2 i _ hi
          obtain ⟨d0, cv, d1, d2, d3, d4, d5, d6⟩ := hR.2.2.2 w _ hw
          obtain ⟨hin, hlt⟩ := gIn_ok hq.2.1 c4
          have hk : gEl t = k := Nat.eq_of_beq_eq_true hq.1
          have h3 : 3 < t := by
            rcases Nat.lt_or_ge 3 t with z | z
            · exact z
            · exfalso
              have h99 : gEl t = 99 := by
                rcases (show t = 0 ∨ t = 1 ∨ t = 2 ∨ t = 3 by omega) with rfl | rfl | rfl | rfl <;> rfl
              have d0' : k < 14 := d0
              omega
          obtain ⟨ht, hel⟩ := gTy_obj h3 c0
          have c8 := (c7 hi7).2
          rw [ht, hk] at c8
          obtain ⟨kA, comp, k1, k2, k3, -⟩ := c8
          have hcl := hks.2.1.2.1 k (by omega)
          have hcomp : comp = G.2.2.2.1 k := Option.some.inj (k3.symm.trans hcl.1)
          subst hcomp
          obtain ⟨kC, hkC, -⟩ := hcl.2
          refine W.aast hx hb c1 (fun q z => by rw [(c7 hi7).1] at z; cases z) c3 k1 k2 rfl hkC ⟨fun z => hin (Or.inl z), Nat.not_le.mp fun z => hin (Or.inr z)⟩ d1 (fun q z => by rw [z] at d4; cases d4) (by rw [d2]; exact hkC) (by rw [d2]; exact va_assign hcl) rfl rfl hdg fun H' e1 e2 e3 => ?_
          exact (hK _ _ _ _ h).2 X hE _ _ _ _ _ (gArr_set hR hi7 hlt c0 c2 c3 c4 c5 c6 c7 e1 e2 e3) (hS.put e2 e3 (gad_in hi7)) hl (by rw [List.length_set]; exact h1) (by rw [gsz_set hi (by rfl)]; exact h2)
      all_goals cases h
    all_goals cases h
  all_goals cases h
end GHEAP
end
section
/-! CALLS, AND THE MAIN THEOREM (printed by wip/gen/gen10.py). -/
def gPc (G : gG) (as : List Value) (lh : gH) : Array Value → State → Prop := fun v U => v = (as.map (grv G)).toArray ∧ gR G U lh U.heap ∧ gKz G U U.heap
def gQc (G : gG) (o1 : gO) : Array Value → State → Outcome → State → Prop := fun _ st oc t => oc = .returned ((o1.2.2.map (grv G)).head?) ∧ gR G t o1.1 t.heap ∧ va_F (fun q => G.2.1 ≤ q) st t
def gRm (d : Nat) (lh : gH) (o1 : gO) : Room := { frames := d, cells := o1.1.length - lh.length, slots := gsz o1.1 - gsz lh, locals := 100 * d }
def gWs (a : Nat) : List Cond := [.code (gM a).1 (gBy a) (gMax a) (gRt a)]
/-- what is known of a call of method a that runs to o1 -/
def gMt1 (G : gG) (l : Launch) (d a : Nat) (as : List Value) (lh : gH) (o1 : gO) : Prop :=
  1 ≤ d ∧ lh.length ≤ o1.1.length ∧ gsz lh ≤ gsz o1.1 ∧ o1.2.2.length ≤ 1 ∧ Met l (gM a).1 (gWs a) (gRm (d - 1) lh o1) (gPc G as lh) (gQc G o1) (o1.1.length - lh.length) (gsz o1.1 - gsz lh) (fun q => G.2.1 ≤ q)
theorem gPc_blind (G : gG) (as : List Value) (lh : gH) : FrameBlind (gPc G as lh) := by
  intro a U g mk ⟨h1, h2, h3⟩
  exact ⟨h1, gR.moved (u := U) (U := U.calling g mk a) (Vm.Alike.refl U.vm) h2, gKz.warm (s := U) (U := U.calling g mk a) (State.WarmedH.refl U) h3⟩
theorem g_cats (G : gG) (r : List Value) : ((r.map (grv G)).map fun v => v.category) = (r.map fun v => v.category) := by
  rw [List.map_map]
  apply List.map_congr_left
  intro v _
  exact grv_cat G v
theorem g_stack {b : Nat} {st r : List Value} {f : Value → Value} (h : st.drop b = r) : st.map f = (((st.take b).reverse).map f).reverse ++ r.map f := by
  rw [List.map_reverse, List.reverse_reverse, ← List.map_append, ← h, List.take_append_drop]
theorem gCkB {a tc : Nat} (h : (gCk tc (gM a).1 (gMax a) (gRt a) && (Nat.beq tc (gM a).2.2.2.2 && Nat.blt 0 a)) = true) : Cond.code (gM a).1 (gBy a) (gMax a) (gRt a) ∈ gTB := by
  simp only [Bool.and_eq_true] at h
  obtain ⟨h1, h2, h3⟩ := h
  have h4 : tc = (gM a).2.2.2.2 := Nat.eq_of_beq_eq_true h2
  have h5 : gBy a = gBt tc := by
    unfold gBy
    rw [show Nat.beq a 0 = false from by
      cases hq : Nat.beq a 0 with
      | false => rfl
      | true =>
        have h6 : 0 < a := Nat.blt_eq.mp h3
        have h7 : a = 0 := Nat.eq_of_beq_eq_true hq
        omega]
    rw [h4]
    rfl
  rw [h5]
  exact gCk.mem h1
theorem gckM_ok {a n ti tc : Nat} (h : gckM a n ti tc = true) : a < 333 ∧ gMax a ≤ 80 ∧ Cond.initialized (gM a).1.cls ∈ gTB ∧ Cond.code (gM a).1 (gBy a) (gMax a) (gRt a) ∈ gTB ∧ (gM a).1.cls ≠ "java/lang/invoke/MethodHandle" ∧ (gM a).1.cls ≠ "java/lang/invoke/VarHandle" ∧ plainFor (gM a).1 = true ∧ (parseMethodDescriptor (gM a).1.desc).map (fun d => d.parameters.length) = some n := by
  unfold gckM at h
  simp only [Bool.and_eq_true] at h
  obtain ⟨h1, h2, h3, h4, h5, h6, h7, h8⟩ := h
  exact ⟨Nat.blt_eq.mp h1, Nat.le_of_ble_eq_true h2, gHas.mem h3, gCkB (by simp only [Bool.and_eq_true]; exact h4), of_decide_eq_true h5, of_decide_eq_true h6, h7, of_decide_eq_true h8⟩
theorem gWs_ok {s : State} (hT : gTb s) {a : Nat} (hc : Cond.code (gM a).1 (gBy a) (gMax a) (gRt a) ∈ gTB) : ∀ w ∈ gWs a, ∀ (a' : Array Value) (U : State), s.WarmedH U.vm → w.before a' U = true := by
  intro w hw a' U hW
  rw [List.mem_singleton.mp hw]
  exact (hT.warm hW).use hc a'
theorem g_fit {R : Room} {d mx : Nat} (hd : 1 ≤ d) (hfr : d ≤ R.frames) (hlo : 100 * d ≤ R.locals) (hm : mx ≤ 80) : d - 1 + 1 ≤ R.frames ∧ 8 + (mx + 11) + 100 * (d - 1) ≤ R.locals := by omega
section GCALL
variable {G : gG} {l : Launch} {p : Program} {e : Env} {R : Room} {s : State} {m : MethodId} {args : Array Value} {below : List Frame} {meth : Method} {c : Code} {Q : State → Prop} {own name : String} {cc : ByteArray} {nL L0 S0 pc a b d : Nat} {rt : Option FieldType} {o : gO} {v : Int} {ts : List Nat} {lv : gL} {st : List Value} {lh : gH} {K : Nat → gL → List Value → gH → Option gO} {C : Nat → List Value → gH → Option gO}
theorem gw_back (hK : ∀ pc lv st lh, K pc lv st lh = some o → gOk G l p e R s m args below meth c Q own name cc d nL L0 S0 rt o pc lv st lh) {as : List Value} {o1 : gO} {r st0 : List Value} {As : Array Value} (hM : gMt1 G l d a as lh o1) (h : K (pc + 3) lv (o1.2.2 ++ r) o1.1 = some o)
    (hrun : gCx G p R s m meth c own name cc nL L0 S0 d o → ∀ (H : Heap) (locs : List Loc) (cells slots : Nat) (ls : Array Slot), gR G s lh H → va_S (fun q => G.2.1 ≤ q) s.heap H locs → lv_has ls nL (gLv G lv) → cells + L0 = lh.length → slots + S0 = gsz lh → cells + (o1.1.length - lh.length) ≤ R.cells ∧ slots + (gsz o1.1 - gsz lh) ≤ R.slots → va_Run p l e R s m args below meth c H locs cells slots (o1.1.length - lh.length) (gsz o1.1 - gsz lh) (F0 m pc ls st0) (r.map (grv G)) (gQc G o1 As) (fun q => G.2.1 ≤ q)) (hst : st0 = st.map (grv G)) : gOk G l p e R s m args below meth c Q own name cc d nL L0 S0 rt o pc lv st lh := by
  obtain ⟨hd, m1, m2, m3, -⟩ := hM
  have hm := (hK _ _ _ _ h).1
  refine ⟨⟨hm.1, Nat.le_trans m1 hm.2.1, Nat.le_trans m2 hm.2.2⟩, fun X hE H locs cells slots ls hR hS hl h1 h2 => ?_⟩
  obtain ⟨hx, hb, hml, hown, hks, hG, hnm, hfr, hlo, hcc, hss⟩ := id X
  subst hst
  intro T hT XT
  obtain ⟨w, st₀, t, T', L, h0, X', hL, e1, e2, ⟨hv, hr, hz, hk⟩, stp⟩ := hrun X H locs cells slots ls hR hS hl h1 h2 (by omega) T hT XT
  have hal : s.vm.Alike T'.vm := X'.warmed.alike
  have hR' : gR G s o1.1 T'.heap := by
    rw [e1]
    rw [e2] at hal
    exact hr.moved hal.symm
  rw [h0] at hz hk
  have hS' : va_S (fun q => G.2.1 ≤ q) s.heap T'.heap (locs ++ L) := by
    refine ⟨Nat.le_trans hS.1 (by rw [e1]; exact hz), fun q q1 q2 => ?_, fun q hq => ?_⟩
    · rw [e1, hk q (Nat.lt_of_lt_of_le q1 hS.1) q2]
      exact hS.2.1 q q1 q2
    · rcases List.mem_append.mp hq with z | z
      · exact hS.2.2 q z
      · exact hL q z
  have hw : w.toList = o1.2.2.map (grv G) := by
    have hv' : w = (o1.2.2.map (grv G)).head? := Outcome.returned.inj hv
    rw [hv']
    rcases hq : o1.2.2 with _ | ⟨x, _ | ⟨y, z⟩⟩
    · rfl
    · rfl
    · rw [hq] at m3
      simp at m3
  obtain ⟨t2, a1, b1⟩ := (hK _ _ _ _ h).2 X hE T'.heap (locs ++ L) (cells + (o1.1.length - lh.length)) (slots + (gsz o1.1 - gsz lh)) ls hR' hS' hl (by omega) (by omega) T' rfl X'
  rw [hw, ← List.map_append] at stp
  exact ⟨t2, stp t2 a1, b1⟩
theorem gw_virt (hK : ∀ pc lv st lh, K pc lv st lh = some o → gOk G l p e R s m args below meth c Q own name cc d nL L0 S0 rt o pc lv st lh) {n : Nat} (hdg : decode cc pc = .ok (.invokevirtual n, 3)) (hC : ∀ (a2 : Nat) (as : List Value) (lh2 : gH) (o1 : gO), C a2 as lh2 = some o1 → a2 < 333 → plainFor (gM a2).1 = true → gMt1 G l d a2 as lh2 o1) (hl0 : gckL own n a (gts ts 0) = true) (hw1 : Cond.instanceMethod (gM a).1 ∈ gTB) (hw2 : Cond.selects (gM a).1.cls (gM a).1 (gM a).1 ∈ gTB) (hmm : gckM a b (gts ts 3) (gts ts 4) = true) (hv14 : v.toNat < 14) (hvc : gCn v.toNat = (gM a).1.cls) (h : gI_virt K C pc a b v lv st lh = some o) : gOk G l p e R s m args below meth c Q own name cc d nL L0 S0 rt o pc lv st lh := by
  obtain ⟨ha, hmx, hi0, hc0, hn1, hn2, hpl, hps⟩ := gckM_ok hmm
  have hlen : ∀ sig, parseMethodDescriptor (gM a).1.desc = some sig → b = sig.parameters.length := fun sig z => by
    rw [z] at hps
    exact (Option.some.inj hps).symm
  unfold gckL at hl0
  rw [Bool.or_eq_true] at hl0
  unfold gI_virt at h
  split at h
  · rename_i i r hst
    split at h
    · rename_i ob hi
      obtain ⟨k, f⟩ := ob
      dsimp only at h
      cases hq : (Int.toNat v == k && gCat r) with
      | false => rw [hq] at h; cases h
      | true =>
        rw [hq] at h
        dsimp only [cond_true] at h
        rw [Bool.and_eq_true] at hq
        have hk : v.toNat = k := by simpa using hq.1
        subst hk
        have hcat := Nat.le_of_ble_eq_true hq.2
        cases ho : C a (.ref i :: (st.take b).reverse) lh with
        | none => rw [ho] at h; cases h
        | some o1 =>
          rw [ho] at h
          have hM := hC _ _ _ _ ho ha hpl
          have hbl : b ≤ st.length := by
            rcases Nat.lt_or_ge st.length b with z | z
            · rw [List.drop_eq_nil_of_le (Nat.le_of_lt z)] at hst
              cases hst
            · exact z
          refine gw_back hK (As := (Value.ref (gad G i) :: ((st.take b).reverse).map (grv G)).toArray) (r := r) (st0 := st.map (grv G)) hM h (fun X H locs cells slots ls hR hS hl h1 h2 hroom => ?_) rfl
          obtain ⟨hx, hb, hml, hown, hks, hG, hnm, hfr, hlo, hcc, hss⟩ := id X
          have hfit := g_fit (mx := gMax a) hM.1 hfr hlo hmx
          have hS0 : CallFix p m c cc nL s args [] own := ⟨hx, hb, hml, hown, fun w hw => by cases hw⟩
          obtain ⟨-, cell, c1, c2, c3, c4, c5, c6⟩ := hR.2.2.2 i _ hi
          have hrecv : ∃ cellB : Cell, H[gad G i]? = some cellB ∧ cellB.vm.isStatics = false ∧ s.vm.findClass (gM a).1.cls = some cellB.cls := ⟨cell, c1, c4, by rw [← hvc, c2]; exact hks.2.1.1 _ hv14⟩
          have hpre : PreV s H (gM a).1.cls (gad G i) (gPc G (.ref i :: (st.take b).reverse) lh) (((st.take b).reverse).map (grv G)) := ⟨gPc_blind G _ _, hrecv, fun U hU hW => ⟨rfl, by rw [hU]; exact hR.moved hW.alike, by rw [hU]; exact (hks.kept hS.2.1).warm hW⟩⟩
          have hstk : st.map (grv G) = (((st.take b).reverse).map (grv G)).reverse ++ Value.ref (gad G i) :: r.map (grv G) := g_stack hst
          rw [hstk]
          rcases hl0 with hl0 | hl0
          · exact va_runV (As := ((st.take b).reverse).map (grv G)) (rest := r.map (grv G)) hS0 hM.2.2.2.2 (C := (gM a).1.cls) (n := b) ⟨⟨rfl, rfl, hfit.1, hfit.2, gWs_ok hks.1 hc0, List.mem_singleton.mpr rfl, hks.1.use hc0 args, hks.1.use hi0 args, ⟨hn1, hn2⟩, hlen, hks.1.use (gHas.mem hl0) args⟩, hks.1.use hw1 args, hks.1.use hw2 args⟩ hpre rfl (by simp [hbl]) hl.1 rfl (lv_room (by rw [g_cats]; exact hcat)) hdg hroom
          · exact va_runVN (As := ((st.take b).reverse).map (grv G)) (rest := r.map (grv G)) hS0 hM.2.2.2.2 (C := (gM a).1.cls) (n := b) ⟨⟨⟨rfl, rfl, hfit.1, hfit.2, gWs_ok hks.1 hc0, List.mem_singleton.mpr rfl⟩, hks.1.use hc0 args, hks.1.use hi0 args, ⟨hn1, hn2⟩, hlen, hks.1.use (gHas.mem hl0) args⟩, hks.1.use hw1 args, hks.1.use hw2 args⟩ hpre rfl (by simp [hbl]) hl.1 rfl (lv_room (by rw [g_cats]; exact hcat)) hdg hroom
    all_goals cases h
  all_goals cases h
theorem gw_stat (hK : ∀ pc lv st lh, K pc lv st lh = some o → gOk G l p e R s m args below meth c Q own name cc d nL L0 S0 rt o pc lv st lh) {n : Nat} (hdg : decode cc pc = .ok (.invokestatic n, 3)) (hC : ∀ (a2 : Nat) (as : List Value) (lh2 : gH) (o1 : gO), C a2 as lh2 = some o1 → a2 < 333 → plainFor (gM a2).1 = true → gMt1 G l d a2 as lh2 o1) (hl0 : gckL own n a (gts ts 0) = true) (hw1 : Cond.static (gM a).1 ∈ gTB) (hmm : gckM a b (gts ts 2) (gts ts 3) = true) (h : gI_stat K C pc a b lv st lh = some o) : gOk G l p e R s m args below meth c Q own name cc d nL L0 S0 rt o pc lv st lh := by
  obtain ⟨ha, hmx, hi0, hc0, hn1, hn2, hpl, hps⟩ := gckM_ok hmm
  have hlen : ∀ sig, parseMethodDescriptor (gM a).1.desc = some sig → b = sig.parameters.length := fun sig z => by
    rw [z] at hps
    exact (Option.some.inj hps).symm
  unfold gckL at hl0
  rw [Bool.or_eq_true] at hl0
  unfold gI_stat at h
  cases hq : (Nat.ble b st.length && gCat (st.drop b)) with
  | false => rw [hq] at h; cases h
  | true =>
    rw [hq] at h
    dsimp only [cond_true] at h
    rw [Bool.and_eq_true] at hq
    have hbl := Nat.le_of_ble_eq_true hq.1
    have hcat := Nat.le_of_ble_eq_true hq.2
    cases ho : C a (st.take b).reverse lh with
    | none => rw [ho] at h; cases h
    | some o1 =>
      rw [ho] at h
      have hM := hC _ _ _ _ ho ha hpl
      refine gw_back hK (As := (((st.take b).reverse).map (grv G)).toArray) (r := st.drop b) (st0 := st.map (grv G)) hM h (fun X H locs cells slots ls hR hS hl h1 h2 hroom => ?_) rfl
      obtain ⟨hx, hb, hml, hown, hks, hG, hnm, hfr, hlo, hcc, hss⟩ := id X
      have hfit := g_fit (mx := gMax a) hM.1 hfr hlo hmx
      have hS0 : CallFix p m c cc nL s args [] own := ⟨hx, hb, hml, hown, fun w hw => by cases hw⟩
      have hpre : PreS s H (gPc G (st.take b).reverse lh) (((st.take b).reverse).map (grv G)) := ⟨gPc_blind G _ _, fun U hU hW => ⟨rfl, by rw [hU]; exact hR.moved hW.alike, by rw [hU]; exact (hks.kept hS.2.1).warm hW⟩⟩
      have hstk : st.map (grv G) = (((st.take b).reverse).map (grv G)).reverse ++ (st.drop b).map (grv G) := g_stack rfl
      rw [hstk]
      rcases hl0 with hl0 | hl0
      · exact va_runS (As := ((st.take b).reverse).map (grv G)) (rest := (st.drop b).map (grv G)) hS0 hM.2.2.2.2 (n := b) ⟨⟨rfl, rfl, hfit.1, hfit.2, gWs_ok hks.1 hc0, List.mem_singleton.mpr rfl, hks.1.use hc0 args, hks.1.use hi0 args, ⟨hn1, hn2⟩, hlen, hks.1.use (gHas.mem hl0) args⟩, hks.1.use hw1 args⟩ hpre rfl (by simp [hbl]) hl.1 rfl (lv_room (by rw [g_cats]; exact hcat)) hdg hroom
      · exact va_runSN (As := ((st.take b).reverse).map (grv G)) (rest := (st.drop b).map (grv G)) hS0 hM.2.2.2.2 (n := b) ⟨⟨⟨rfl, rfl, hfit.1, hfit.2, gWs_ok hks.1 hc0, List.mem_singleton.mpr rfl⟩, hks.1.use hc0 args, hks.1.use hi0 args, ⟨hn1, hn2⟩, hlen, hks.1.use (gHas.mem hl0) args⟩, hks.1.use hw1 args, trivial⟩ hpre rfl (by simp [hbl]) hl.1 rfl (lv_room (by rw [g_cats]; exact hcat)) hdg hroom
theorem gw_spec (hK : ∀ pc lv st lh, K pc lv st lh = some o → gOk G l p e R s m args below meth c Q own name cc d nL L0 S0 rt o pc lv st lh) {n : Nat} (ha9 : Nat.beq a 9999 = false) (hdg : decode cc pc = .ok (.invokespecial n, 3)) (hC : ∀ (a2 : Nat) (as : List Value) (lh2 : gH) (o1 : gO), C a2 as lh2 = some o1 → a2 < 333 → plainFor (gM a2).1 = true → gMt1 G l d a2 as lh2 o1) (hl0 : gckL own n a (gts ts 0) = true) (hw1 : Cond.instanceMethod (gM a).1 ∈ gTB) (hin : (gM a).1.name = "<init>") (hrn : gRt a = none) (hmm : gckM a b (gts ts 2) (gts ts 3) = true) (h : gI_spec K C (Nat.ble 1 d) pc a b lv st lh = some o) : gOk G l p e R s m args below meth c Q own name cc d nL L0 S0 rt o pc lv st lh := by
  obtain ⟨ha, hmx, hi0, hc0, hn1, hn2, hpl, hps⟩ := gckM_ok hmm
  have hlen : ∀ sig, parseMethodDescriptor (gM a).1.desc = some sig → b = sig.parameters.length := fun sig z => by
    rw [z] at hps
    exact (Option.some.inj hps).symm
  unfold gckL at hl0
  rw [Bool.or_eq_true] at hl0
  unfold gI_spec at h
  rw [ha9] at h
  dsimp only [cond_false] at h
  split at h
  · rename_i i r hst
    cases hq : gCat r with
    | false => rw [hq] at h; cases h
    | true =>
      rw [hq] at h
      dsimp only [cond_true] at h
      have hcat := Nat.le_of_ble_eq_true hq
      cases ho : C a (.ref i :: (st.take b).reverse) lh with
      | none => rw [ho] at h; cases h
      | some o1 =>
        rw [ho] at h
        have hM := hC _ _ _ _ ho ha hpl
        have hbl : b ≤ st.length := by
          rcases Nat.lt_or_ge st.length b with z | z
          · rw [List.drop_eq_nil_of_le (Nat.le_of_lt z)] at hst
            cases hst
          · exact z
        have hcm : Cond.code (gM a).1 (gBy a) (gMax a) none ∈ gWs a := by rw [← hrn]; exact List.mem_singleton.mpr rfl
        refine gw_back hK (As := (Value.ref (gad G i) :: ((st.take b).reverse).map (grv G)).toArray) (r := r) (st0 := st.map (grv G)) hM h (fun X H locs cells slots ls hR hS hl h1 h2 hroom => ?_) rfl
        obtain ⟨hx, hb, hml, hown, hks, hG, hnm, hfr, hlo, hcc, hss⟩ := id X
        have hfit := g_fit (mx := gMax a) hM.1 hfr hlo hmx
        have hS0 : CallFix p m c cc nL s args [] own := ⟨hx, hb, hml, hown, fun w hw => by cases hw⟩
        have hpre : PreS s H (gPc G (.ref i :: (st.take b).reverse) lh) (Value.ref (gad G i) :: ((st.take b).reverse).map (grv G)) := ⟨gPc_blind G _ _, fun U hU hW => ⟨rfl, by rw [hU]; exact hR.moved hW.alike, by rw [hU]; exact (hks.kept hS.2.1).warm hW⟩⟩
        have hstk : st.map (grv G) = (((st.take b).reverse).map (grv G)).reverse ++ Value.ref (gad G i) :: r.map (grv G) := g_stack hst
        rw [hstk]
        rcases hl0 with hl0 | hl0
        · exact va_runI (As := ((st.take b).reverse).map (grv G)) (rest := r.map (grv G)) hS0 hM.2.2.2.2 (n := b) ⟨⟨rfl, rfl, hfit.1, hfit.2, gWs_ok hks.1 hc0, hcm, hrn ▸ hks.1.use hc0 args, hks.1.use hi0 args, ⟨hn1, hn2⟩, hlen, hks.1.use (gHas.mem hl0) args⟩, hin, hks.1.use hw1 args⟩ hpre rfl (by simp [hbl]) hl.1 rfl (lv_room (by rw [g_cats]; exact hcat)) hdg hroom
        · exact va_runIN (As := ((st.take b).reverse).map (grv G)) (rest := r.map (grv G)) hS0 hM.2.2.2.2 (n := b) ⟨⟨⟨rfl, rfl, hfit.1, hfit.2, gWs_ok hks.1 hc0, hcm⟩, hrn ▸ hks.1.use hc0 args, hks.1.use hi0 args, ⟨hn1, hn2⟩, hlen, hks.1.use (gHas.mem hl0) args⟩, hin, hks.1.use hw1 args⟩ hpre rfl (by simp [hbl]) hl.1 rfl (lv_room (by rw [g_cats]; exact hcat)) hdg hroom
  all_goals cases h
theorem gw_obj (hK : ∀ pc lv st lh, K pc lv st lh = some o → gOk G l p e R s m args below meth c Q own name cc d nL L0 S0 rt o pc lv st lh) {n : Nat} (ha9 : Nat.beq a 9999 = true) (hdg : decode cc pc = .ok (.invokespecial n, 3)) (hw0 : Cond.methodLink own n objectInit ∈ gTB) (hw1 : Cond.instanceMethod objectInit ∈ gTB) (hw2 : Cond.code objectInit ⟨#[0xb1]⟩ 1 none ∈ gTB) (h : gI_spec K C (Nat.ble 1 d) pc a b lv st lh = some o) : gOk G l p e R s m args below meth c Q own name cc d nL L0 S0 rt o pc lv st lh := by
  unfold gI_spec at h
  rw [ha9] at h
  dsimp only [cond_true] at h
  split at h
  · rename_i i r
    cases hq : (Nat.ble 1 d && gCat r) with
    | false => rw [hq] at h; cases h
    | true =>
      rw [hq] at h
      rw [Bool.and_eq_true] at hq
      have hd := Nat.le_of_ble_eq_true hq.1
      have hcat := Nat.le_of_ble_eq_true hq.2
      refine ⟨(hK _ _ _ _ h).1, fun X hE H locs cells slots ls hR hS hl h1 h2 => ?_⟩
      obtain ⟨hx, hb, hml, hown, hks, hG, hnm, hfr, hlo, hcc, hss⟩ := id X
      refine W.objInit hx hb hown (hks.1.use hw0 args) (hks.1.use hw1 args) (hks.1.use hw2 args) rfl (hl.1.trans hml.symm) rfl hdg (by omega) ?_ ?_
      · have := lv_room (m := m) (pc := pc) (ls := ls) (rest := (r.map (grv G))) (st := r.map (grv G)) (by rw [g_cats]; exact hcat)
        show 2 * 0 + ((r.map (grv G)).map fun v => v.category).sum + 12 ≤ R.locals
        have h8 : ((r.map (grv G)).map fun v => v.category).sum ≤ 8 := by rw [g_cats]; exact hcat
        omega
      · exact (hK _ _ _ _ h).2 X hE _ _ _ _ _ hR hS hl h1 h2
  all_goals cases h
end GCALL
end
section
/-! THE MAIN THEOREM: a pure run is a run of the machine (printed by wip/gen/gen11.py). -/
theorem gdg {cc : ByteArray} {pc n0 : Nat} {ins : Instr} (hd : decode cc pc = .ok (ins, n0)) (hn : (Nat.beq n0 (gLen ins) || gAny ins) = true) (ha : gAny ins = false) : decode cc pc = .ok (ins, gLen ins) := by
  rw [ha, Bool.or_false] at hn
  rw [hd, Nat.eq_of_beq_eq_true hn]
def gIHs (G : gG) (l : Launch) (n : Nat) : Prop := ∀ (j d pc : Nat) (lv : gL) (st : List Value) (lh : gH) (o : gO), gRun n j d pc lv st lh = some o →
  ∀ (p : Program) (e : Env) (R : Room) (s : State) (m : MethodId) (args : Array Value) (below : List Frame) (meth : Method) (c : Code) (Q : State → Prop) (L0 S0 : Nat),
    gOk G l p e R s m args below meth c Q (gM j).1.cls (gM j).1.name (gBy j) d (gMax j) L0 S0 (gRt j) o pc lv st lh
theorem lv_args_map (G : gG) (as : List Value) : ∀ k : Nat, lv_args k (as.map (grv G)) = gLv G (lv_args k as) := by
  induction as with
  | nil => intro k; rfl
  | cons v t ih =>
    intro k
    show (k, grv G v) :: lv_args (if (grv G v).category = 2 then k + 2 else k + 1) (t.map (grv G)) = (k, grv G v) :: gLv G (lv_args (if v.category = 2 then k + 2 else k + 1) t)
    rw [grv_cat, ih]
theorem lg_sl_map (G : gG) (as : List Value) : (lg_sl (as.map (grv G))).length = (lg_sl as).length := by
  unfold lg_sl
  induction as with
  | nil => rfl
  | cons v t ih =>
    simp only [List.map_cons, List.flatMap_cons, List.length_append, grv_cat]
    rw [ih]
    by_cases h : v.category = 2
    · simp [h]
    · simp [h]
theorem gEnd_len {cc : ByteArray} {rt : Option FieldType} {o : gO} (h : gEnd cc rt o) : o.2.2.length ≤ 1 := by
  rcases h with ⟨x, ty, -, h, -⟩ | ⟨x, -, h, -⟩ | ⟨w, ty, -, -, h, -⟩ | ⟨-, h, -⟩ <;> rw [h] <;> simp
theorem gMet {G : gG} (hG : G.1 = 7) {l : Launch} {n : Nat} (p0 : Program) (e0 : Env) (R0 : Room) (s0 : State) (m0 : MethodId) (args0 : Array Value) (below0 : List Frame) (meth0 : Method) (c0 : Code) (Q0 : State → Prop) (IH : gIHs G l n) {d a : Nat} {as : List Value} {lh : gH} {o1 : gO} (hpl : plainFor (gM a).1 = true) (h : gCall (gRun n) d a as lh = some o1) : gMt1 G l d a as lh o1 := by
  unfold gCall at h
  cases d with
  | zero => cases h
  | succ d =>
    dsimp only at h
    cases hq : Nat.ble (lg_sl as).length (gMax a) with
    | false => rw [hq] at h; cases h
    | true =>
      rw [hq] at h
      dsimp only [cond_true] at h
      have hlen : (lg_sl (as.map (grv G))).length ≤ gMax a := by rw [lg_sl_map]; exact Nat.le_of_ble_eq_true hq
      have ih := IH a d 0 (lv_args 0 as) [] lh o1 h
      suffices key : (gEnd (gBy a) (gRt a) o1 ∧ lh.length ≤ o1.1.length ∧ gsz lh ≤ gsz o1.1) → Met l (gM a).1 (gWs a) (gRm d lh o1) (gPc G as lh) (gQc G o1) (o1.1.length - lh.length) (gsz o1.1 - gsz lh) (fun q => G.2.1 ≤ q) by
        have hm := (ih p0 e0 R0 s0 m0 args0 below0 meth0 c0 Q0 0 0).1
        exact ⟨Nat.succ_le_succ (Nat.zero_le d), hm.2.1, hm.2.2, gEnd_len hm.1, key hm⟩
      intro hm
      refine va_MetF (cc := (gBy a)) (maxL := gMax a) (ret := gRt a) hpl rfl ?_
      intro p e s m args below meth c s₁ B hml hv
      obtain ⟨rfl, hR, hks⟩ := hv
      have hx := B.exec
      have hb := B.bytes
      have hr := B.returns
      have hlocks : meth.locks = false := B.notSynchronized
      have hown : s.vm.findClass (gM a).1.cls = some m.cls := findClass_of_methodNamed B.named
      have hnm : meth.name = (gM a).1.name := (name_of_methodNamed B.named B.method).1
      have hok := ih p e (gRm d lh o1) s m (as.map (grv G)).toArray below meth c (MQ below (gQc G o1) (as.map (grv G)).toArray s (o1.1.length - lh.length) (gsz o1.1 - gsz lh) (fun q => G.2.1 ≤ q)) lh.length (gsz lh)
      have hcx : gCx G p (gRm d lh o1) s m meth c (gM a).1.cls (gM a).1.name (gBy a) (gMax a) lh.length (gsz lh) d o1 := ⟨hx, hb, hml, hown, hks, hG, fun z => hnm.trans z, Nat.le_refl _, Nat.le_refl _, by show o1.1.length ≤ o1.1.length - lh.length + lh.length; omega, by show gsz o1.1 ≤ gsz o1.1 - gsz lh + gsz lh; omega⟩
      rw [lg_entry_eq]
      have hl := lv_entry (as.map (grv G)) hlen
      rw [lv_args_map] at hl
      refine hok.2 hcx ?_ s.heap [] 0 0 _ hR va_S.rf hl (Nat.zero_add _) (Nat.zero_add _)
      intro H locs cells slots ls hR' hS' hc hs
      obtain rfl : cells = o1.1.length - lh.length := by omega
      obtain rfl : slots = gsz o1.1 - gsz lh := by omega
      have hpost : ∀ (w : Option Value), (o1.2.2.map (grv G)).head? = w → ∀ t : State, t.heap = H → s.WarmedH t.vm → gQc G o1 (as.map (grv G)).toArray s (.returned w) t := fun w hw t ht hW => ⟨by rw [hw], by rw [ht]; exact hR'.moved hW.alike, hS'.F ht⟩
      rcases hm.1 with ⟨x, ty, e1, e2, e3, e4⟩ | ⟨x, e1, e2, e4⟩ | ⟨w, ty, e1, e5, e2, e3, e4⟩ | ⟨e1, e2, e4⟩
      · rw [e2]
        exact W.zret hx hb (hr.trans e1) e3 (hpost _ (by rw [e2]; rfl)) hS'.2.2 e4
      · rw [e2]
        exact W.lret hx hb (hr.trans e1) (hpost _ (by rw [e2]; rfl)) hS'.2.2 e4
      · rw [e2]
        refine W.aret hx hb (hr.trans e1) e5 ?_ (hpost _ (by rw [e2]; rfl)) hS'.2.2 e4
        rcases e3 with rfl | ⟨i, rfl⟩
        · exact Or.inl rfl
        · exact Or.inr ⟨_, rfl⟩
      · rw [e2]
        exact W.vret hx hb (hr.trans e1) (hpost _ (by rw [e2]; rfl)) hS'.2.2 e4
set_option maxHeartbeats 4000000 in
theorem gMain {G : gG} (hG : G.1 = 7) (l : Launch) : ∀ n, gIHs G l n := by
  intro n
  induction n with
  | zero =>
    intro j d pc lv st lh o h
    rw [gRun_zero] at h
    cases h
  | succ n IH =>
  intro j d pc lv st lh o h p e R s m args below meth c Q L0 S0
  rw [gRun_succ] at h
  unfold gStep at h
  split at h
  · cases h
  rename_i en hen
  obtain ⟨hpc, hck⟩ := gAtt_chk hen
  obtain ⟨pc0, ins, a, b, v, ts⟩ := en
  dsimp only at hpc h
  subst hpc
  unfold gchk at hck
  rw [Bool.and_eq_true] at hck
  obtain ⟨hdn, hc⟩ := hck
  dsimp only at hdn hc
  split at hdn
  rotate_left
  · cases hdn
  rename_i r hd
  obtain ⟨i0, n0⟩ := r
  rw [Bool.and_eq_true] at hdn
  have hi0 : i0 = ins := of_decide_eq_true hdn.1
  subst hi0
  have hn := hdn.2
  dsimp only at hn
  have hK : ∀ pc' lv' st' lh', gRun n j d pc' lv' st' lh' = some o → gOk G l p e R s m args below meth c Q (gM j).1.cls (gM j).1.name (gBy j) d (gMax j) L0 S0 (gRt j) o pc' lv' st' lh' := fun pc' lv' st' lh' h' => IH j d pc' lv' st' lh' o h' p e R s m args below meth c Q L0 S0
  have hC : ∀ (a2 : Nat) (as : List Value) (lh2 : gH) (o1 : gO), gCall (gRun n) d a2 as lh2 = some o1 → a2 < 333 → plainFor (gM a2).1 = true → gMt1 G l d a2 as lh2 o1 := fun a2 as lh2 o1 h2 _ hpl => gMet hG p e R s m args below meth c Q IH hpl h2
  cases i0 with
  | iload_n k => exact gw_iload_n hK (gdg hd hn rfl) h
  | iload k => exact gw_iload hK (gdg hd hn rfl) h
  | lload_n k => exact gw_lload_n hK (gdg hd hn rfl) h
  | lload k => exact gw_lload hK (gdg hd hn rfl) h
  | aload_n k => exact gw_aload_n hK (gdg hd hn rfl) h
  | aload k => exact gw_aload hK (gdg hd hn rfl) h
  | istore_n k => exact gw_istore_n hK (gdg hd hn rfl) (Nat.blt_eq.mp hc) h
  | istore k => exact gw_istore hK (gdg hd hn rfl) (Nat.blt_eq.mp hc) h
  | astore_n k => exact gw_astore_n hK (gdg hd hn rfl) (Nat.blt_eq.mp hc) h
  | astore k => exact gw_astore hK (gdg hd hn rfl) (Nat.blt_eq.mp hc) h
  | lstore_n k => exact gw_lstore_n hK (gdg hd hn rfl) (Nat.blt_eq.mp hc) h
  | lstore k => exact gw_lstore hK (gdg hd hn rfl) (Nat.blt_eq.mp hc) h
  | iinc k n => exact gw_iinc hK (gdg hd hn rfl) (Nat.blt_eq.mp hc) h
  | iconst n => exact gw_iconst hK (gdg hd hn rfl) h
  | bipush n => exact gw_bipush hK (gdg hd hn rfl) h
  | sipush n => exact gw_sipush hK (gdg hd hn rfl) h
  | lconst n => exact gw_lconst hK (gdg hd hn rfl) h
  | aconst_null => exact gw_null hK (gdg hd hn rfl) h
  | ldc n =>
    unfold gIns at h
    unfold gck at hc
    cases hb1 : Nat.beq b 1 with
    | true =>
      rw [hb1] at h hc
      dsimp only [cond_true] at h hc
      rw [Bool.and_eq_true, Bool.and_eq_true, decide_eq_true_eq] at hc
      have hn1 : n = (gSt a).1 := Nat.eq_of_beq_eq_true hc.2.2
      exact gw_ldcS hK (Nat.blt_eq.mp hc.1) hc.2.1 hn1 (by rw [hc.2.1, hn1]) (gdg hd hn rfl) h
    | false =>
      rw [hb1] at h hc
      dsimp only [cond_false] at h hc
      exact gw_ldc hK (gHas.mem hc) (gdg hd hn rfl) h
  | ldc_w n => exact gw_ldcw hK (gHas.mem hc) (gdg hd hn rfl) h
  | ldc2_w n => exact gw_ldc2 hK (gHas.mem hc) (gdg hd hn rfl) h
  | iadd => exact gw_iadd hK (gdg hd hn rfl) h
  | isub => exact gw_isub hK (gdg hd hn rfl) h
  | imul => exact gw_imul hK (gdg hd hn rfl) h
  | iand => exact gw_iand hK (gdg hd hn rfl) h
  | ior => exact gw_ior hK (gdg hd hn rfl) h
  | ixor => exact gw_ixor hK (gdg hd hn rfl) h
  | ishl => exact gw_ishl hK (gdg hd hn rfl) h
  | ishr => exact gw_ishr hK (gdg hd hn rfl) h
  | iushr => exact gw_iushr hK (gdg hd hn rfl) h
  | idiv => exact gw_idiv hK (gdg hd hn rfl) h
  | irem => exact gw_irem hK (gdg hd hn rfl) h
  | ineg => exact gw_ineg hK (gdg hd hn rfl) h
  | i2b => exact gw_i2b hK (gdg hd hn rfl) h
  | i2c => exact gw_i2c hK (gdg hd hn rfl) h
  | ladd => exact gw_ladd hK (gdg hd hn rfl) h
  | lsub => exact gw_lsub hK (gdg hd hn rfl) h
  | lmul => exact gw_lmul hK (gdg hd hn rfl) h
  | ldiv => exact gw_ldiv hK (gdg hd hn rfl) h
  | lcmp => exact gw_lcmp hK (gdg hd hn rfl) h
  | i2l => exact gw_i2l hK (gdg hd hn rfl) h
  | l2i => exact gw_l2i hK (gdg hd hn rfl) h
  | dup => exact gw_dup hK (gdg hd hn rfl) h
  | dup2 => exact gw_dup2 hK (gdg hd hn rfl) h
  | pop => exact gw_pop hK (gdg hd hn rfl) h
  | ifCond cd off => exact gw_if hK (gdg hd hn rfl) (of_decide_eq_true hc) h
  | if_icmp cd off => exact gw_icmp hK (gdg hd hn rfl) (of_decide_eq_true hc) h
  | ifnull off => exact gw_ifnull hK (gdg hd hn rfl) (of_decide_eq_true hc) h
  | ifnonnull off => exact gw_ifnonnull hK (gdg hd hn rfl) (of_decide_eq_true hc) h
  | goto off => exact gw_goto hK (of_decide_eq_true hc) (gdg hd hn rfl) h
  | tableswitch dflt lo hi offs => exact gw_table hK hd h
  | lookupswitch dflt ps => exact gw_lookup hK hd hc h
  | getfield n =>
    have hc := Bool.and_eq_true _ _ ▸ hc
    exact gw_get hK (gdg hd hn rfl) (Nat.blt_eq.mp hc.1) hc.2 h
  | putfield n =>
    unfold gck at hc
    rw [Bool.and_eq_true, Bool.and_eq_true] at hc
    exact gw_put hK (gdg hd hn rfl) (Nat.blt_eq.mp hc.1) hc.2.1 hc.2.2 h
  | getstatic n => exact gw_gets hK (gdg hd hn rfl) hc h
  | new n =>
    unfold gck at hc
    rw [Bool.and_eq_true, Bool.and_eq_true, Bool.and_eq_true] at hc
    exact gw_new hK (gdg hd hn rfl) (Nat.blt_eq.mp hc.1) (gHas.mem hc.2.1) (gHas.mem hc.2.2.1) (gHas.mem hc.2.2.2) h
  | newarray t =>
    unfold gck at hc
    rw [Bool.and_eq_true, Bool.and_eq_true, decide_eq_true_eq] at hc
    exact gw_newa hK (gdg hd hn rfl) (Nat.blt_eq.mp hc.1) hc.2.1 (gHas.mem hc.2.2) h
  | anewarray n =>
    unfold gck at hc
    rw [Bool.and_eq_true, Bool.and_eq_true, Bool.and_eq_true] at hc
    exact gw_anew hK (gdg hd hn rfl) (Nat.blt_eq.mp hc.1) (Nat.blt_eq.mp hc.2.1) (gHas.mem hc.2.2.1) (gHas.mem hc.2.2.2) h
  | arraylength => exact gw_len hK (gdg hd hn rfl) h
  | iaload => exact gw_iald hK (gdg hd hn rfl) h
  | laload => exact gw_lald hK (gdg hd hn rfl) h
  | baload => exact gw_bald hK (gdg hd hn rfl) h
  | aaload => exact gw_aald hK (gdg hd hn rfl) h
  | iastore => exact gw_iast hK (gdg hd hn rfl) h
  | bastore => exact gw_bast hK (gdg hd hn rfl) h
  | lastore => exact gw_last hK (gdg hd hn rfl) h
  | aastore => exact gw_aast hK (gdg hd hn rfl) h
  | invokevirtual n =>
    unfold gck at hc
    simp only [Bool.and_eq_true, decide_eq_true_eq] at hc
    exact gw_virt hK (gdg hd hn rfl) hC hc.1 (gHas.mem hc.2.1) (gHas.mem hc.2.2.1) hc.2.2.2.1 (Nat.blt_eq.mp hc.2.2.2.2.1) hc.2.2.2.2.2 h
  | invokestatic n =>
    unfold gck at hc
    simp only [Bool.and_eq_true] at hc
    exact gw_stat hK (gdg hd hn rfl) hC hc.1 (gHas.mem hc.2.1) hc.2.2 h
  | invokespecial n =>
    unfold gck at hc
    cases ha9 : Nat.beq a 9999 with
    | true =>
      rw [ha9] at hc
      dsimp only [cond_true] at hc
      simp only [Bool.and_eq_true] at hc
      exact gw_obj hK ha9 (gdg hd hn rfl) (gHas.mem hc.1) (gHas.mem hc.2.1) (gHas.mem hc.2.2) h
    | false =>
      rw [ha9] at hc
      dsimp only [cond_false] at hc
      simp only [Bool.and_eq_true, decide_eq_true_eq] at hc
      exact gw_spec hK ha9 (gdg hd hn rfl) hC hc.1 (gHas.mem hc.2.1) hc.2.2.1 hc.2.2.2.1 hc.2.2.2.2 h
  | ireturn => exact gw_iret hK (gdg hd hn rfl) h
  | lreturn => exact gw_lret hK (gdg hd hn rfl) h
  | areturn => exact gw_aret hK (gdg hd hn rfl) h
  | return_ => exact gw_vret hK (gdg hd hn rfl) h
  | _ => exact absurd (show (none : Option gO) = some o from h) (fun z => by cases z)
end
section
/-! FOR THE KERNEL: lists by their recursor, numbers made whole. (Part 12 is printed by wip/gen/gen12.py.) -/
noncomputable def fNat {α : Type} (n : Nat) (k : Nat → α) : α := Nat.rec (motive := fun _ => α) (k 0) (fun m _ => k (Nat.succ m)) n
noncomputable def fInt {α : Type} (i : Int) (k : Int → α) : α := Int.rec (motive := fun _ => α) (fun n => fNat n (fun n => k (Int.ofNat n))) (fun n => fNat n (fun n => k (Int.negSucc n))) i
noncomputable def fV {α : Type} (v : Nat × Int × Int) (k : Nat × Int × Int → α) : α := fNat v.1 (fun t => fInt v.2.1 (fun a => fInt v.2.2 (fun b => k (t, a, b))))
noncomputable def fNth {α : Type} (l : List α) : Nat → Option α := List.rec (motive := fun _ => Nat → Option α) (fun _ => none) (fun a _ ih i => Nat.rec (motive := fun _ => Option α) (some a) (fun k _ => ih k) i) l
noncomputable def fSet {α : Type} (l : List α) (c : α) : Nat → List α := List.rec (motive := fun _ => Nat → List α) (fun _ => []) (fun a t ih i => Nat.rec (motive := fun _ => List α) (c :: t) (fun k _ => a :: ih k) i) l
noncomputable def fSnoc {α : Type} (l : List α) (c : α) : List α := List.rec (motive := fun _ => List α) [c] (fun a _ ih => a :: ih) l
noncomputable def fLen {α : Type} (l : List α) : Nat := List.rec (motive := fun _ => Nat) 0 (fun _ _ n => Nat.succ n) l
noncomputable def fFilt {α β : Type} (f : α → Bool) (l : List α) : (List α → β) → β := List.rec (motive := fun _ => (List α → β) → β) (fun k => k []) (fun a _ ih k => bif f a then ih (fun t => k (a :: t)) else ih k) l
noncomputable def fFind (pc : Nat) (l : List gE) : Option gE := List.rec (motive := fun _ => Option gE) none (fun e _ ih => bif Nat.beq e.1 pc then some e else ih) l
noncomputable def sAtt (j pc : Nat) : Option gE := match fNth gPgs (Nat.div j 16) with
  | some A => (match fNth A (Nat.mod j 16) with
    | some B => (match fNth B (Nat.div pc 32) with
      | some l => fFind pc l
      | none => none)
    | none => none)
  | none => none
theorem fNat_eq {α : Type} (n : Nat) (k : Nat → α) : fNat n k = k n := by cases n <;> rfl
theorem fInt_eq {α : Type} (i : Int) (k : Int → α) : fInt i k = k i := by
  cases i with
  | ofNat n => exact fNat_eq n (fun n => k (Int.ofNat n))
  | negSucc n => exact fNat_eq n (fun n => k (Int.negSucc n))
theorem fV_eq {α : Type} (v : Nat × Int × Int) (k : Nat × Int × Int → α) : fV v k = k v := by
  unfold fV
  rw [fNat_eq, fInt_eq, fInt_eq]
theorem fNth_eq {α : Type} (l : List α) (i : Nat) : fNth l i = l[i]? := by
  induction l generalizing i with
  | nil => rfl
  | cons a t ih => cases i with
    | zero => rfl
    | succ i => exact (ih i).trans (by simp)
theorem fSet_eq {α : Type} (l : List α) (c : α) (i : Nat) : fSet l c i = l.set i c := by
  induction l generalizing i with
  | nil => rfl
  | cons a t ih => cases i with
    | zero => rfl
    | succ i => exact congrArg (a :: ·) (ih i)
theorem fSnoc_eq {α : Type} (l : List α) (c : α) : fSnoc l c = l ++ [c] := by
  induction l with
  | nil => rfl
  | cons a t ih => exact congrArg (a :: ·) ih
theorem fLen_eq {α : Type} (l : List α) : fLen l = l.length := by
  induction l with
  | nil => rfl
  | cons a t ih => exact congrArg Nat.succ ih
theorem fFilt_eq {α β : Type} (f : α → Bool) (l : List α) (k : List α → β) : fFilt f l k = k (l.filter f) := by
  induction l generalizing k with
  | nil => rfl
  | cons a t ih =>
    rw [List.filter_cons]
    show (bif f a then fFilt f t (fun t => k (a :: t)) else fFilt f t k) = _
    cases f a with
    | true => exact ih _
    | false => exact ih _
theorem fFind_eq (pc : Nat) (l : List gE) : fFind pc l = l.find? (fun e => Nat.beq e.1 pc) := by
  induction l with
  | nil => rfl
  | cons a t ih =>
    rw [List.find?_cons]
    show (bif Nat.beq a.1 pc then some a else fFind pc t) = _
    cases Nat.beq a.1 pc with
    | true => rfl
    | false => exact ih
theorem sAtt_eq (j pc : Nat) : sAtt j pc = gAtt j pc := by
  unfold sAtt gAtt gProg
  rw [fNth_eq, List.getD_eq_getElem?_getD (l := gPgs)]
  show (match gPgs[j / 16]? with
    | some A => _
    | none => none) = _
  cases gPgs[j / 16]? with
  | none => rfl
  | some A =>
    dsimp only [Option.getD_some]
    rw [fNth_eq, List.getD_eq_getElem?_getD (l := A)]
    show (match A[j % 16]? with
      | some B => _
      | none => none) = _
    cases A[j % 16]? with
    | none => rfl
    | some B =>
      dsimp only [Option.getD_some]
      rw [fNth_eq, List.getD_eq_getElem?_getD]
      show (match B[pc / 32]? with
        | some l => _
        | none => none) = _
      cases B[pc / 32]? with
      | none => rfl
      | some l => exact fFind_eq pc l
/-! THE SYMBOLIC RUN: ints by intervals, inputs by name; all paths; closed, so that the kernel can do it. -/
abbrev sV : Type := Nat × Int × Int
abbrev sI : Type := List (Int × Int)
abbrev sC : Type := Nat × Nat × List (Nat × sV)
abbrev sH : Type := List sC
abbrev sL : Type := List (Nat × sV)
abbrev sLf : Type := sI × sH × Nat × List sV
def sFull : Int × Int := (-2147483648, 2147483647)
def sFulL : Int × Int := (-9223372036854775808, 9223372036854775807)
def sK0 (c : Int) : sV := (0, c, c)
def sMk (p : Int × Int) : sV := (0, p.1, p.2)
def sMkL (p : Int × Int) : sV := (1, p.1, p.2)
/-- the interval of an int value -/
noncomputable def sIv (cs : sI) (v : sV) : Int × Int := bif Nat.beq v.1 0 then v.2 else (match fNth cs (v.1 - 10) with
  | some p => p
  | none => sFull)
def sIsI (v : sV) : Bool := Nat.beq v.1 0 || Nat.ble 10 v.1
def sCat (v : sV) : Nat := bif Nat.beq v.1 1 then 2 else 1
def sZ (ty : FieldType) : sV := match ty with
  | .long => (1, 0, 0)
  | .object _ => (2, 0, 0)
  | .array _ => (2, 0, 0)
  | .float => (9, 0, 0)
  | .double => (9, 0, 0)
  | _ => (0, 0, 0)
def sDf (k : Nat) (j : Nat) : sV := bif Nat.blt k 100 then sZ (gYt k j) else sZ (gTy (k - 100))
noncomputable def sLk2 (j : Nat) (l : List (Nat × sV)) (d : sV) : sV := List.rec (motive := fun _ => sV) d (fun q _ ih => bif Nat.beq j q.1 then q.2 else ih) l
noncomputable def sGet (c : sC) (j : Nat) : sV := sLk2 j c.2.2 (sDf c.1 j)
noncomputable def sPut (c : sC) (j : Nat) (v : sV) : sC := (c.1, c.2.1, (j, v) :: c.2.2)
noncomputable def sLk (k : Nat) (l : sL) : Option sV := List.rec (motive := fun _ => Option sV) none (fun q _ ih => bif Nat.beq q.1 k then some q.2 else ih) l
def sSt1 (lv : sL) (i : Nat) (v : sV) : sL := (i, v) :: lv.filter (fun q => !(q.1 == i) && !(q.1 + 1 == i && sCat q.2 == 2))
def sSt2 (lv : sL) (i : Nat) (v : sV) : sL := (i, v) :: lv.filter (fun q => !(q.1 == i) && (!(q.1 == i + 1) && !(q.1 + 1 == i && sCat q.2 == 2)))
def sApp : Option (List sLf) → Option (List sLf) → Option (List sLf)
  | some a, some b => some (a ++ b)
  | _, _ => none
/-- never, ever, or both -/
def sCmp (c : Jvm.ClassFile.Cond) (X Y : Int × Int) : Option Bool := match c with
  | .eq => bif decide (X.1 = X.2) && (decide (Y.1 = Y.2) && decide (X.1 = Y.1)) then some true else bif decide (X.2 < Y.1) || decide (Y.2 < X.1) then some false else none
  | .ne => bif decide (X.1 = X.2) && (decide (Y.1 = Y.2) && decide (X.1 = Y.1)) then some false else bif decide (X.2 < Y.1) || decide (Y.2 < X.1) then some true else none
  | .lt => bif decide (X.2 < Y.1) then some true else bif decide (Y.2 ≤ X.1) then some false else none
  | .ge => bif decide (X.2 < Y.1) then some false else bif decide (Y.2 ≤ X.1) then some true else none
  | .gt => bif decide (Y.2 < X.1) then some true else bif decide (X.2 ≤ Y.1) then some false else none
  | .le => bif decide (Y.2 < X.1) then some false else bif decide (X.2 ≤ Y.1) then some true else none
def sNeg (c : Jvm.ClassFile.Cond) : Jvm.ClassFile.Cond := match c with
  | .eq => .ne
  | .ne => .eq
  | .lt => .ge
  | .ge => .lt
  | .gt => .le
  | .le => .gt
def sFlip (c : Jvm.ClassFile.Cond) : Jvm.ClassFile.Cond := match c with
  | .eq => .eq
  | .ne => .ne
  | .lt => .gt
  | .ge => .le
  | .gt => .lt
  | .le => .ge
/-- what is left of X where 'x c n' holds -/
def sCut (c : Jvm.ClassFile.Cond) (X : Int × Int) (n : Int) : Int × Int := match c with
  | .eq => (n, n)
  | .ne => bif decide (X.1 = n) then (n + 1, X.2) else bif decide (X.2 = n) then (X.1, n - 1) else X
  | .lt => (X.1, bif decide (X.2 < n) then X.2 else n - 1)
  | .ge => (bif decide (X.1 < n) then n else X.1, X.2)
  | .gt => (bif decide (X.1 ≤ n) then n + 1 else X.1, X.2)
  | .le => (X.1, bif decide (n < X.2) then n else X.2)
noncomputable def sRef1 (c : Jvm.ClassFile.Cond) (cs : sI) (v : sV) (n : Int) : sI := bif Nat.ble 10 v.1 then fSet cs (sCut c (sIv cs v) n) (v.1 - 10) else cs
noncomputable def sRef (c : Jvm.ClassFile.Cond) (cs : sI) (x y : sV) : sI := bif decide ((sIv cs y).1 = (sIv cs y).2) then sRef1 c cs x (sIv cs y).1 else bif decide ((sIv cs x).1 = (sIv cs x).2) then sRef1 (sFlip c) cs y (sIv cs x).1 else cs
noncomputable def sBr3 (c : Jvm.ClassFile.Cond) (cs : sI) (x y : sV) (k : sI → Option (List sLf)) : Option (List sLf) := match sCmp c (sIv cs x) (sIv cs y) with
  | some false => some []
  | _ => k (sRef c cs x y)
noncomputable def sBr1 (c : Jvm.ClassFile.Cond) (cs : sI) (x y : sV) (kt kf : sI → Option (List sLf)) : Option (List sLf) := match sCmp c (sIv cs x) (sIv cs y) with
  | some true => kt cs
  | some false => kf cs
  | none => (match c with
    | .eq => sApp (sBr3 .lt cs x y kf) (sApp (sBr3 .gt cs x y kf) (sBr3 .eq cs x y kt))
    | .ne => sApp (sBr3 .lt cs x y kt) (sApp (sBr3 .gt cs x y kt) (sBr3 .eq cs x y kf))
    | .lt => sApp (kt (sRef .lt cs x y)) (kf (sRef .ge cs x y))
    | .ge => sApp (kt (sRef .ge cs x y)) (kf (sRef .lt cs x y))
    | .gt => sApp (kt (sRef .gt cs x y)) (kf (sRef .le cs x y))
    | .le => sApp (kt (sRef .le cs x y)) (kf (sRef .gt cs x y)))
def sSelf (c : Jvm.ClassFile.Cond) : Bool := match c with
  | .eq => true
  | .ge => true
  | .le => true
  | _ => false
/-- inputs 3 and 4, and 2 and 4, are compared by their order, which is input 6, and 7: (the input of the order, turned round) -/
def sPair (x y : sV) : Option (Nat × Bool) := bif Nat.beq y.1 14 then (bif Nat.beq x.1 13 then some (16, false) else bif Nat.beq x.1 12 then some (17, false) else none) else bif Nat.beq x.1 14 then (bif Nat.beq y.1 13 then some (16, true) else bif Nat.beq y.1 12 then some (17, true) else none) else none
noncomputable def sBr (c : Jvm.ClassFile.Cond) (cs : sI) (x y : sV) (kt kf : sI → Option (List sLf)) : Option (List sLf) := match sPair x y with
  | some q => sBr1 (bif q.2 then sFlip c else c) cs (q.1, 0, 0) (sK0 0) kt kf
  | none => bif Nat.ble 10 x.1 && Nat.beq x.1 y.1 then (bif sSelf c then kt cs else kf cs) else sBr1 c cs x y kt kf
/-- each value of an interval, one by one, m at most -/
noncomputable def sEach (cs : sI) (v : sV) (k : sI → Int → Option (List sLf)) (m : Nat) : Int → Option (List sLf) := Nat.rec (motive := fun _ => Int → Option (List sLf)) (fun n => k (sRef1 .eq cs v n) n) (fun _ ih n => sApp (k (sRef1 .eq cs v n) n) (fInt (n + 1) ih)) m
/-- by cases over an index within 0 .. n - 1 -/
noncomputable def sIdx (cs : sI) (v : sV) (n : Nat) (k : sI → Int → Option (List sLf)) : Option (List sLf) :=
  bif decide (0 ≤ (sIv cs v).1) && (decide ((sIv cs v).2 < (n : Int)) && (decide ((sIv cs v).1 ≤ (sIv cs v).2) && decide ((sIv cs v).2 - (sIv cs v).1 ≤ 64))) then sEach cs v k ((sIv cs v).2 - (sIv cs v).1).toNat (sIv cs v).1 else none
def sFitI (ty : FieldType) (X : Int × Int) : Bool := match ty with
  | .int => true
  | .boolean => decide (0 ≤ X.1) && decide (X.2 ≤ 1)
  | _ => false
noncomputable def sFit (cs : sI) (ty : FieldType) (v : sV) : Bool := match ty with
  | .long => Nat.beq v.1 1
  | .object _ => Nat.beq v.1 2 || Nat.beq v.1 3
  | .array _ => Nat.beq v.1 2 || Nat.beq v.1 3
  | ty => sIsI v && sFitI ty (sIv cs v)
def sOne (X : Int × Int) : Bool := decide (X.1 = X.2)
def sBin (f : Int32 → Int32 → Int32) (g : Int × Int → Int × Int → Int × Int) (X Y : Int × Int) : sV := bif sOne X && sOne Y then sK0 (f (Int32.ofInt X.1) (Int32.ofInt Y.1)).toInt else sMk (g X Y)
def sAny (_ _ : Int × Int) : Int × Int := sFull
/-- a mask that is not negative -/
def sAnd (_ Y : Int × Int) : Int × Int := bif sOne Y && decide (0 ≤ Y.1) then (0, Y.1) else sFull
def sUn (f : Int32 → Int32) (X : Int × Int) : sV := bif sOne X then sK0 (f (Int32.ofInt X.1)).toInt else sMk sFull
def sLbin (f : Int64 → Int64 → Int64) (X Y : Int × Int) : sV := bif sOne X && sOne Y then (1, (f (Int64.ofInt X.1) (Int64.ofInt Y.1)).toInt, (f (Int64.ofInt X.1) (Int64.ofInt Y.1)).toInt) else sMkL sFulL
section SINS
variable (K : sI → Nat → sL → List sV → sH → Option (List sLf)) (C : sI → Nat → List sV → sH → Option (List sLf)) (rt : Option FieldType) (dp : Bool) (cs : sI) (pc a b : Nat) (v : Int) (lv : sL) (st : List sV) (lh : sH)
noncomputable def sI_load (t : sV → Bool) (i n : Nat) : Option (List sLf) := match sLk i lv with
  | some w => bif t w then K cs (pc + n) lv (w :: st) lh else none
  | none => none
def sIsL (v : sV) : Bool := Nat.beq v.1 1
def sIsA (v : sV) : Bool := Nat.beq v.1 2 || Nat.beq v.1 3
noncomputable def sI_store (t : sV → Bool) (i n : Nat) : Option (List sLf) := match st with
  | w :: r => bif t w then fFilt (fun q => !(q.1 == i) && !(q.1 + 1 == i && sCat q.2 == 2)) lv (fun l => K cs (pc + n) ((i, w) :: l) r lh) else none
  | _ => none
noncomputable def sI_lstore (i n : Nat) : Option (List sLf) := match st with
  | w :: r => bif sIsL w then fFilt (fun q => !(q.1 == i) && (!(q.1 == i + 1) && !(q.1 + 1 == i && sCat q.2 == 2))) lv (fun l => K cs (pc + n) ((i, w) :: l) r lh) else none
  | _ => none
noncomputable def sI_iinc (i : Nat) (n : Int) : Option (List sLf) := match sLk i lv with
  | some w => bif sIsI w then fV (sUn (fun x => x + Int32.ofInt n) (sIv cs w)) (fun u => fFilt (fun q => !(q.1 == i) && !(q.1 + 1 == i && sCat q.2 == 2)) lv (fun l => K cs (pc + 3) ((i, u) :: l) st lh)) else none
  | none => none
noncomputable def sI_int (x : Int32) (n : Nat) : Option (List sLf) := fV (sK0 x.toInt) (fun u => K cs (pc + n) lv (u :: st) lh)
noncomputable def sI_long (x : Int64) (n : Nat) : Option (List sLf) := fV (1, x.toInt, x.toInt) (fun u => K cs (pc + n) lv (u :: st) lh)
noncomputable def sI_bin (f : Int32 → Int32 → Int32) (g : Int × Int → Int × Int → Int × Int) : Option (List sLf) := match st with
  | y :: x :: r => bif sIsI y && sIsI x then fV (sBin f g (sIv cs x) (sIv cs y)) (fun u => K cs (pc + 1) lv (u :: r) lh) else none
  | _ => none
noncomputable def sI_div (f : Int32 → Int32 → Int32) : Option (List sLf) := match st with
  | y :: x :: r => bif (sIsI y && sIsI x) && (decide (0 < (sIv cs y).1) || decide ((sIv cs y).2 < 0)) then fV (sBin f sAny (sIv cs x) (sIv cs y)) (fun u => K cs (pc + 1) lv (u :: r) lh) else none
  | _ => none
noncomputable def sI_un (f : Int32 → Int32) : Option (List sLf) := match st with
  | x :: r => bif sIsI x then fV (sUn f (sIv cs x)) (fun u => K cs (pc + 1) lv (u :: r) lh) else none
  | _ => none
noncomputable def sI_lbin (f : Int64 → Int64 → Int64) : Option (List sLf) := match st with
  | y :: x :: r => bif sIsL y && sIsL x then fV (sLbin f x.2 y.2) (fun u => K cs (pc + 1) lv (u :: r) lh) else none
  | _ => none
noncomputable def sI_ldiv : Option (List sLf) := match st with
  | y :: x :: r => bif (sIsL y && sIsL x) && (decide (0 < y.2.1) || decide (y.2.2 < 0)) then fV (sLbin (fun x y => x / y) x.2 y.2) (fun u => K cs (pc + 1) lv (u :: r) lh) else none
  | _ => none
noncomputable def sI_lcmp : Option (List sLf) := match st with
  | y :: x :: r => bif sIsL y && sIsL x then fV (bif sOne x.2 && sOne y.2 then sK0 (lg_cmp (Int64.ofInt x.2.1) (Int64.ofInt y.2.1)).toInt else sMk sFull) (fun u => K cs (pc + 1) lv (u :: r) lh) else none
  | _ => none
noncomputable def sI_i2l : Option (List sLf) := match st with
  | x :: r => bif sIsI x then fV (sMkL (sIv cs x)) (fun u => K cs (pc + 1) lv (u :: r) lh) else none
  | _ => none
noncomputable def sI_l2i : Option (List sLf) := match st with
  | x :: r => bif sIsL x then fV (bif sOne x.2 then sK0 (Int64.ofInt x.2.1).toInt32.toInt else sMk sFull) (fun u => K cs (pc + 1) lv (u :: r) lh) else none
  | _ => none
noncomputable def sI_dup : Option (List sLf) := match st with
  | w :: r => bif Nat.beq (sCat w) 1 then K cs (pc + 1) lv (w :: w :: r) lh else none
  | _ => none
noncomputable def sI_dup2 : Option (List sLf) := match st with
  | w :: r => bif Nat.beq (sCat w) 2 then K cs (pc + 1) lv (w :: w :: r) lh else (match r with
    | w2 :: r2 => bif Nat.beq (sCat w) 1 && Nat.beq (sCat w2) 1 then K cs (pc + 1) lv (w :: w2 :: w :: w2 :: r2) lh else none
    | _ => none)
  | _ => none
noncomputable def sI_pop : Option (List sLf) := match st with
  | w :: r => bif Nat.beq (sCat w) 1 then K cs (pc + 1) lv r lh else none
  | _ => none
noncomputable def sI_if (c : Jvm.ClassFile.Cond) : Option (List sLf) := match st with
  | x :: r => bif sIsI x then sBr c cs x (sK0 0) (fun cs => K cs a lv r lh) (fun cs => K cs (pc + 3) lv r lh) else none
  | _ => none
noncomputable def sI_icmp (c : Jvm.ClassFile.Cond) : Option (List sLf) := match st with
  | y :: x :: r => bif sIsI y && sIsI x then sBr c cs x y (fun cs => K cs a lv r lh) (fun cs => K cs (pc + 3) lv r lh) else none
  | _ => none
noncomputable def sI_null (t1 t2 : Nat) : Option (List sLf) := match st with
  | x :: r => bif Nat.beq x.1 2 then K cs t1 lv r lh else bif Nat.beq x.1 3 then K cs t2 lv r lh else none
  | _ => none
noncomputable def sGo (pc : Nat) (off : Int) (k : Nat → Option (List sLf)) : Option (List sLf) := bif decide (0 ≤ (pc : Int) + off) then k ((pc : Int) + off).toNat else none
noncomputable def sI_table (dflt lo hi : Int) (offs : Array Int) : Option (List sLf) := match st with
  | x :: r => bif sIsI x && (decide ((Int32.ofInt lo).toInt = lo) && decide ((Int32.ofInt hi).toInt = hi)) then sBr .lt cs x (sK0 lo) (fun cs => sGo pc dflt (fun t => K cs t lv r lh)) (fun cs => sBr .gt cs x (sK0 hi) (fun cs => sGo pc dflt (fun t => K cs t lv r lh)) (fun cs2 =>
      bif decide (lo ≤ hi) then sEach cs2 x (fun cs n => bif decide ((sIv cs2 x).2 < n) || decide (n < (sIv cs2 x).1) then some [] else (match offs[(n - lo).toNat]? with
        | some off => sGo pc off (fun t => K cs t lv r lh)
        | none => none)) (hi - lo).toNat lo else none)) else none
  | _ => none
noncomputable def sI_get : Option (List sLf) := match st with
  | x :: r => bif Nat.beq x.1 3 then (match fNth lh x.2.1.toNat with
    | some o => bif Nat.beq o.1 a && Nat.blt a 100 then fV (sGet o b) (fun u => K cs (pc + 3) lv (u :: r) lh) else none
    | none => none) else none
  | _ => none
noncomputable def sI_put : Option (List sLf) := match st with
  | w :: x :: r => bif Nat.beq x.1 3 then (match fNth lh x.2.1.toNat with
    | some o => bif (Nat.beq o.1 a && Nat.blt a 100) && (sFit cs (gYt a b) w && Nat.ble 7 x.2.1.toNat) then K cs (pc + 3) lv r (fSet lh (sPut o b w) x.2.1.toNat) else none
    | none => none) else none
  | _ => none
noncomputable def sI_gets : Option (List sLf) := bif Nat.beq a 0 then K cs (pc + 3) lv (sK0 1 :: st) lh else K cs (pc + 3) lv ((4, 0, 0) :: st) lh
noncomputable def sI_new : Option (List sLf) := bif Nat.blt a 100 then fNat (fLen lh) (fun z => K cs (pc + 3) lv ((3, Int.ofNat z, 0) :: st) (fSnoc lh (a, 0, []))) else none
noncomputable def sI_newa (n : Nat) : Option (List sLf) := match st with
  | x :: r => bif sIsI x && (sOne (sIv cs x) && (decide (0 ≤ (sIv cs x).1) && decide ((sIv cs x).1 ≤ 65536))) then fNat (fLen lh) (fun z => fNat (sIv cs x).1.toNat (fun y => K cs (pc + n) lv ((3, Int.ofNat z, 0) :: r) (fSnoc lh (100 + a, y, [])))) else none
  | _ => none
noncomputable def sI_len : Option (List sLf) := match st with
  | x :: r => bif Nat.beq x.1 3 then (match fNth lh x.2.1.toNat with
    | some o => bif Nat.ble 100 o.1 && Nat.ble o.2.1 65536 then K cs (pc + 1) lv (sK0 (o.2.1 : Int) :: r) lh else none
    | none => none) else none
  | _ => none
noncomputable def sI_ald (t : Nat → Bool) : Option (List sLf) := match st with
  | i :: x :: r => bif Nat.beq x.1 3 && sIsI i then (match fNth lh x.2.1.toNat with
    | some o => bif (Nat.ble 100 o.1 && t (o.1 - 100)) && Nat.ble o.2.1 65536 then sIdx cs i o.2.1 (fun cs n => fV (sGet o n.toNat) (fun u => K cs (pc + 1) lv (u :: r) lh)) else none
    | none => none) else none
  | _ => none
def sNar (t : Nat) (X : Int × Int) : sV := bif Nat.beq t 2 then (bif sOne X then sK0 (Int32.ofInt X.1).toInt8.toInt32.toInt else (0, -128, 127)) else (bif sOne X then sK0 (Int32.ofInt X.1 &&& 1).toInt else (0, 0, 1))
noncomputable def sI_ist (t : Nat → Bool) (g : Nat → sV → sV) : Option (List sLf) := match st with
  | w :: i :: x :: r => bif Nat.beq x.1 3 && (sIsI i && sIsI w) then (match fNth lh x.2.1.toNat with
    | some o => bif (Nat.ble 100 o.1 && t (o.1 - 100)) && (Nat.ble o.2.1 65536 && Nat.ble 7 x.2.1.toNat) then sIdx cs i o.2.1 (fun cs n => fV (g (o.1 - 100) w) (fun u => fNat n.toNat (fun y => K cs (pc + 1) lv r (fSet lh (sPut o y u) x.2.1.toNat)))) else none
    | none => none) else none
  | _ => none
noncomputable def sI_last : Option (List sLf) := match st with
  | w :: i :: x :: r => bif Nat.beq x.1 3 && (sIsI i && sIsL w) then (match fNth lh x.2.1.toNat with
    | some o => bif (Nat.ble 100 o.1 && Nat.beq (o.1 - 100) 1) && (Nat.ble o.2.1 65536 && Nat.ble 7 x.2.1.toNat) then sIdx cs i o.2.1 (fun cs n => fNat n.toNat (fun y => K cs (pc + 1) lv r (fSet lh (sPut o y w) x.2.1.toNat))) else none
    | none => none) else none
  | _ => none
noncomputable def sI_aast : Option (List sLf) := match st with
  | w :: i :: x :: r => bif Nat.beq x.1 3 && (sIsI i && Nat.beq w.1 3) then (match fNth lh x.2.1.toNat with
    | some o => (match fNth lh w.2.1.toNat with
      | some ob => bif (Nat.ble 100 o.1 && (Nat.beq (gEl (o.1 - 100)) ob.1 && Nat.blt ob.1 100)) && (Nat.ble o.2.1 65536 && Nat.ble 7 x.2.1.toNat) then sIdx cs i o.2.1 (fun cs n => fNat n.toNat (fun y => K cs (pc + 1) lv r (fSet lh (sPut o y w) x.2.1.toNat))) else none
      | none => none)
    | none => none) else none
  | _ => none
noncomputable def sBack (lv : sL) (n : Nat) (r : List sV) (l : List sLf) : Option (List sLf) := List.rec (motive := fun _ => Option (List sLf)) (some []) (fun f _ ih => sApp (K f.1 (pc + n) lv (f.2.2.2 ++ r) f.2.1) ih) l
def sCats (st : List sV) : Bool := Nat.ble (st.map sCat).sum 8
noncomputable def sI_virt : Option (List sLf) := match st.drop b with
  | x :: r => bif Nat.beq x.1 3 then (match fNth lh x.2.1.toNat with
    | some o => bif (Int.toNat v == o.1 && Nat.blt o.1 100) && sCats r then (match C cs a (x :: (st.take b).reverse) lh with
      | some l => sBack K pc lv 3 r l
      | none => none) else none
    | none => none) else none
  | _ => none
noncomputable def sI_stat : Option (List sLf) := bif Nat.ble b st.length && sCats (st.drop b) then (match C cs a (st.take b).reverse lh with
    | some l => sBack K pc lv 3 (st.drop b) l
    | none => none) else none
noncomputable def sI_spec : Option (List sLf) := bif Nat.beq a 9999 then (match st with
  | x :: r => bif Nat.beq x.1 3 && (dp && sCats r) then K cs (pc + 3) lv r lh else none
  | _ => none) else (match st.drop b with
  | x :: r => bif Nat.beq x.1 3 && sCats r then (match C cs a (x :: (st.take b).reverse) lh with
      | some l => sBack K pc lv 3 r l
      | none => none) else none
  | _ => none)
noncomputable def sI_iret : Option (List sLf) := match st with
  | [x] => (match rt with
    | some ty => bif sIsI x && (sFitI ty (sIv cs x) || (sOne (sIv cs x) && decide (narrow ty (.int (Int32.ofInt (sIv cs x).1)) = .int (Int32.ofInt (sIv cs x).1)))) then some [(cs, lh, pc, st)] else none
    | none => none)
  | _ => none
noncomputable def sI_lret : Option (List sLf) := match st with
  | [x] => (match rt with
    | some .long => bif sIsL x then some [(cs, lh, pc, st)] else none
    | _ => none)
  | _ => none
noncomputable def sI_aret : Option (List sLf) := match rt with
  | some (.object _) => (match st with
    | [x] => bif sIsA x then some [(cs, lh, pc, st)] else none
    | _ => none)
  | some (.array _) => (match st with
    | [x] => bif sIsA x then some [(cs, lh, pc, st)] else none
    | _ => none)
  | _ => none
noncomputable def sI_vret : Option (List sLf) := match st with
  | [] => (match rt with
    | none => some [(cs, lh, pc, st)]
    | _ => none)
  | _ => none
end SINS
noncomputable def sIns : Instr → (sI → Nat → sL → List sV → sH → Option (List sLf)) → (sI → Nat → List sV → sH → Option (List sLf)) → Option FieldType → Bool → sI → Nat → Nat → Nat → Int → sL → List sV → sH → Option (List sLf) := @Instr.rec (fun _ => (sI → Nat → sL → List sV → sH → Option (List sLf)) → (sI → Nat → List sV → sH → Option (List sLf)) → Option FieldType → Bool → sI → Nat → Nat → Nat → Int → sL → List sV → sH → Option (List sLf))
  (fun K C rt dp cs pc a b v lv st lh => sI_ald K cs pc lv st lh (fun t => Nat.ble 4 t))
  (fun K C rt dp cs pc a b v lv st lh => sI_aast K cs pc lv st lh)
  (fun K C rt dp cs pc a b v lv st lh => K cs (pc + 1) lv ((2, 0, 0) :: st) lh)
  (fun i K C rt dp cs pc a b v lv st lh => sI_load K cs pc lv st lh sIsA i 2)
  (fun i K C rt dp cs pc a b v lv st lh => sI_load K cs pc lv st lh sIsA i 1)
  (fun _ K C rt dp cs pc a b v lv st lh => sI_newa K cs pc a lv st lh 3)
  (fun K C rt dp cs pc a b v lv st lh => sI_aret rt cs pc st lh)
  (fun K C rt dp cs pc a b v lv st lh => sI_len K cs pc lv st lh)
  (fun i K C rt dp cs pc a b v lv st lh => sI_store K cs pc lv st lh sIsA i 2)
  (fun i K C rt dp cs pc a b v lv st lh => sI_store K cs pc lv st lh sIsA i 1)
  (fun _ _ _ _ _ _ _ _ _ _ _ _ => none)
  (fun K C rt dp cs pc a b v lv st lh => sI_ald K cs pc lv st lh (fun t => Nat.beq t 2 || Nat.beq t 3))
  (fun K C rt dp cs pc a b v lv st lh => sI_ist K cs pc lv st lh (fun t => Nat.beq t 2 || Nat.beq t 3) (fun t w => sNar t (sIv cs w)))
  (fun n K C rt dp cs pc a b v lv st lh => sI_int K cs pc lv st lh (Int8.ofInt n).toInt32 2)
  (fun _ _ _ _ _ _ _ _ _ _ _ _ => none)
  (fun _ _ _ _ _ _ _ _ _ _ _ _ => none)
  (fun _ _ _ _ _ _ _ _ _ _ _ _ _ => none)
  (fun _ _ _ _ _ _ _ _ _ _ _ _ => none)
  (fun _ _ _ _ _ _ _ _ _ _ _ _ => none)
  (fun _ _ _ _ _ _ _ _ _ _ _ _ => none)
  (fun _ _ _ _ _ _ _ _ _ _ _ _ => none)
  (fun _ _ _ _ _ _ _ _ _ _ _ _ => none)
  (fun _ _ _ _ _ _ _ _ _ _ _ _ => none)
  (fun _ _ _ _ _ _ _ _ _ _ _ _ _ => none)
  (fun _ _ _ _ _ _ _ _ _ _ _ _ _ => none)
  (fun _ _ _ _ _ _ _ _ _ _ _ _ => none)
  (fun _ _ _ _ _ _ _ _ _ _ _ _ _ => none)
  (fun _ _ _ _ _ _ _ _ _ _ _ _ _ => none)
  (fun _ _ _ _ _ _ _ _ _ _ _ _ => none)
  (fun _ _ _ _ _ _ _ _ _ _ _ _ => none)
  (fun _ _ _ _ _ _ _ _ _ _ _ _ => none)
  (fun _ _ _ _ _ _ _ _ _ _ _ _ => none)
  (fun _ _ _ _ _ _ _ _ _ _ _ _ _ => none)
  (fun _ _ _ _ _ _ _ _ _ _ _ _ _ => none)
  (fun _ _ _ _ _ _ _ _ _ _ _ _ => none)
  (fun K C rt dp cs pc a b v lv st lh => sI_dup K cs pc lv st lh)
  (fun _ _ _ _ _ _ _ _ _ _ _ _ => none)
  (fun _ _ _ _ _ _ _ _ _ _ _ _ => none)
  (fun K C rt dp cs pc a b v lv st lh => sI_dup2 K cs pc lv st lh)
  (fun _ _ _ _ _ _ _ _ _ _ _ _ => none)
  (fun _ _ _ _ _ _ _ _ _ _ _ _ => none)
  (fun _ _ _ _ _ _ _ _ _ _ _ _ => none)
  (fun _ _ _ _ _ _ _ _ _ _ _ _ => none)
  (fun _ _ _ _ _ _ _ _ _ _ _ _ => none)
  (fun _ _ _ _ _ _ _ _ _ _ _ _ => none)
  (fun _ _ _ _ _ _ _ _ _ _ _ _ => none)
  (fun _ _ _ _ _ _ _ _ _ _ _ _ => none)
  (fun _ _ _ _ _ _ _ _ _ _ _ _ _ => none)
  (fun _ _ _ _ _ _ _ _ _ _ _ _ _ => none)
  (fun _ _ _ _ _ _ _ _ _ _ _ _ => none)
  (fun _ _ _ _ _ _ _ _ _ _ _ _ _ => none)
  (fun _ _ _ _ _ _ _ _ _ _ _ _ _ => none)
  (fun _ _ _ _ _ _ _ _ _ _ _ _ => none)
  (fun _ _ _ _ _ _ _ _ _ _ _ _ => none)
  (fun _ _ _ _ _ _ _ _ _ _ _ _ => none)
  (fun _ _ _ _ _ _ _ _ _ _ _ _ => none)
  (fun _ _ _ _ _ _ _ _ _ _ _ _ _ => none)
  (fun _ _ _ _ _ _ _ _ _ _ _ _ _ => none)
  (fun _ _ _ _ _ _ _ _ _ _ _ _ => none)
  (fun _ K C rt dp cs pc a b v lv st lh => sI_get K cs pc a b lv st lh)
  (fun _ K C rt dp cs pc a b v lv st lh => sI_gets K cs pc a lv st lh)
  (fun _ K C rt dp cs pc a b v lv st lh => K cs a lv st lh)
  (fun _ _ _ _ _ _ _ _ _ _ _ _ _ => none)
  (fun K C rt dp cs pc a b v lv st lh => sI_un K cs pc lv st lh (fun x => x.toInt8.toInt32))
  (fun K C rt dp cs pc a b v lv st lh => sI_un K cs pc lv st lh (fun x => (x.toUInt32 % 65536).toInt32))
  (fun _ _ _ _ _ _ _ _ _ _ _ _ => none)
  (fun _ _ _ _ _ _ _ _ _ _ _ _ => none)
  (fun K C rt dp cs pc a b v lv st lh => sI_i2l K cs pc lv st lh)
  (fun _ _ _ _ _ _ _ _ _ _ _ _ => none)
  (fun K C rt dp cs pc a b v lv st lh => sI_bin K cs pc lv st lh (fun x y => x + y) sAny)
  (fun K C rt dp cs pc a b v lv st lh => sI_ald K cs pc lv st lh (fun t => Nat.beq t 0))
  (fun K C rt dp cs pc a b v lv st lh => sI_bin K cs pc lv st lh (fun x y => x &&& y) sAnd)
  (fun K C rt dp cs pc a b v lv st lh => sI_ist K cs pc lv st lh (fun t => Nat.beq t 0) (fun _ w => w))
  (fun n K C rt dp cs pc a b v lv st lh => sI_int K cs pc lv st lh (Int32.ofInt n) 1)
  (fun K C rt dp cs pc a b v lv st lh => sI_div K cs pc lv st lh (fun x y => x / y))
  (fun _ _ _ _ _ _ _ _ _ _ _ _ _ _ => none)
  (fun c _ K C rt dp cs pc a b v lv st lh => sI_icmp K cs pc a lv st lh c)
  (fun c _ K C rt dp cs pc a b v lv st lh => sI_if K cs pc a lv st lh c)
  (fun _ K C rt dp cs pc a b v lv st lh => sI_null K cs lv st lh (pc + 3) a)
  (fun _ K C rt dp cs pc a b v lv st lh => sI_null K cs lv st lh a (pc + 3))
  (fun i n K C rt dp cs pc a b v lv st lh => sI_iinc K cs pc lv st lh i n)
  (fun i K C rt dp cs pc a b v lv st lh => sI_load K cs pc lv st lh sIsI i 2)
  (fun i K C rt dp cs pc a b v lv st lh => sI_load K cs pc lv st lh sIsI i 1)
  (fun K C rt dp cs pc a b v lv st lh => sI_bin K cs pc lv st lh (fun x y => x * y) sAny)
  (fun K C rt dp cs pc a b v lv st lh => sI_un K cs pc lv st lh (fun x => -x))
  (fun _ _ _ _ _ _ _ _ _ _ _ _ _ => none)
  (fun _ _ _ _ _ _ _ _ _ _ _ _ _ => none)
  (fun _ _ _ _ _ _ _ _ _ _ _ _ _ _ => none)
  (fun _ K C rt dp cs pc a b v lv st lh => sI_spec K C dp cs pc a b lv st lh)
  (fun _ K C rt dp cs pc a b v lv st lh => sI_stat K C cs pc a b lv st lh)
  (fun _ K C rt dp cs pc a b v lv st lh => sI_virt K C cs pc a b v lv st lh)
  (fun K C rt dp cs pc a b v lv st lh => sI_bin K cs pc lv st lh (fun x y => x ||| y) sAny)
  (fun K C rt dp cs pc a b v lv st lh => sI_div K cs pc lv st lh (fun x y => x - x / y * y))
  (fun K C rt dp cs pc a b v lv st lh => sI_iret rt cs pc st lh)
  (fun K C rt dp cs pc a b v lv st lh => sI_bin K cs pc lv st lh (fun x y => x <<< (y &&& 31)) sAny)
  (fun K C rt dp cs pc a b v lv st lh => sI_bin K cs pc lv st lh (fun x y => x >>> (y &&& 31)) sAny)
  (fun i K C rt dp cs pc a b v lv st lh => sI_store K cs pc lv st lh sIsI i 2)
  (fun i K C rt dp cs pc a b v lv st lh => sI_store K cs pc lv st lh sIsI i 1)
  (fun K C rt dp cs pc a b v lv st lh => sI_bin K cs pc lv st lh (fun x y => x - y) sAny)
  (fun K C rt dp cs pc a b v lv st lh => sI_bin K cs pc lv st lh (fun x y => (x.toUInt32 >>> (y.toUInt32 &&& Int32.toUInt32 31)).toInt32) sAny)
  (fun K C rt dp cs pc a b v lv st lh => sI_bin K cs pc lv st lh (fun x y => x ^^^ y) sAny)
  (fun _ _ _ _ _ _ _ _ _ _ _ _ _ => none)
  (fun _ _ _ _ _ _ _ _ _ _ _ _ _ => none)
  (fun _ _ _ _ _ _ _ _ _ _ _ _ => none)
  (fun _ _ _ _ _ _ _ _ _ _ _ _ => none)
  (fun K C rt dp cs pc a b v lv st lh => sI_l2i K cs pc lv st lh)
  (fun K C rt dp cs pc a b v lv st lh => sI_lbin K cs pc lv st lh (fun x y => x + y))
  (fun K C rt dp cs pc a b v lv st lh => sI_ald K cs pc lv st lh (fun t => Nat.beq t 1))
  (fun _ _ _ _ _ _ _ _ _ _ _ _ => none)
  (fun K C rt dp cs pc a b v lv st lh => sI_last K cs pc lv st lh)
  (fun K C rt dp cs pc a b v lv st lh => sI_lcmp K cs pc lv st lh)
  (fun n K C rt dp cs pc a b v lv st lh => sI_long K cs pc lv st lh (Int64.ofNat (n : Nat)) 1)
  (fun _ K C rt dp cs pc a b v lv st lh => bif Nat.beq b 1 then K cs (pc + 2) lv ((3, ((2 * a + 1 : Nat) : Int), 0) :: st) lh else sI_int K cs pc lv st lh (Int32.ofInt v) 2)
  (fun _ K C rt dp cs pc a b v lv st lh => sI_int K cs pc lv st lh (Int32.ofInt v) 3)
  (fun _ K C rt dp cs pc a b v lv st lh => sI_long K cs pc lv st lh (Int64.ofInt v) 3)
  (fun K C rt dp cs pc a b v lv st lh => sI_ldiv K cs pc lv st lh)
  (fun i K C rt dp cs pc a b v lv st lh => sI_load K cs pc lv st lh sIsL i 2)
  (fun i K C rt dp cs pc a b v lv st lh => sI_load K cs pc lv st lh sIsL i 1)
  (fun K C rt dp cs pc a b v lv st lh => sI_lbin K cs pc lv st lh (fun x y => x * y))
  (fun _ _ _ _ _ _ _ _ _ _ _ _ => none)
  (fun _ _ _ _ _ _ _ _ _ _ _ _ _ _ => none)
  (fun _ _ _ _ _ _ _ _ _ _ _ _ => none)
  (fun _ _ _ _ _ _ _ _ _ _ _ _ => none)
  (fun K C rt dp cs pc a b v lv st lh => sI_lret rt cs pc st lh)
  (fun _ _ _ _ _ _ _ _ _ _ _ _ => none)
  (fun _ _ _ _ _ _ _ _ _ _ _ _ => none)
  (fun i K C rt dp cs pc a b v lv st lh => sI_lstore K cs pc lv st lh i 2)
  (fun i K C rt dp cs pc a b v lv st lh => sI_lstore K cs pc lv st lh i 1)
  (fun K C rt dp cs pc a b v lv st lh => sI_lbin K cs pc lv st lh (fun x y => x - y))
  (fun _ _ _ _ _ _ _ _ _ _ _ _ => none)
  (fun _ _ _ _ _ _ _ _ _ _ _ _ => none)
  (fun _ _ _ _ _ _ _ _ _ _ _ _ => none)
  (fun _ _ _ _ _ _ _ _ _ _ _ _ => none)
  (fun _ _ _ _ _ _ _ _ _ _ _ _ _ _ => none)
  (fun _ K C rt dp cs pc a b v lv st lh => sI_new K cs pc a lv st lh)
  (fun _ K C rt dp cs pc a b v lv st lh => sI_newa K cs pc a lv st lh 2)
  (fun _ _ _ _ _ _ _ _ _ _ _ _ => none)
  (fun K C rt dp cs pc a b v lv st lh => sI_pop K cs pc lv st lh)
  (fun _ _ _ _ _ _ _ _ _ _ _ _ => none)
  (fun _ K C rt dp cs pc a b v lv st lh => sI_put K cs pc a b lv st lh)
  (fun _ _ _ _ _ _ _ _ _ _ _ _ _ => none)
  (fun _ _ _ _ _ _ _ _ _ _ _ _ _ => none)
  (fun K C rt dp cs pc a b v lv st lh => sI_vret rt cs pc st lh)
  (fun _ _ _ _ _ _ _ _ _ _ _ _ => none)
  (fun _ _ _ _ _ _ _ _ _ _ _ _ => none)
  (fun n K C rt dp cs pc a b v lv st lh => sI_int K cs pc lv st lh (Int16.ofInt n).toInt32 3)
  (fun _ _ _ _ _ _ _ _ _ _ _ _ => none)
  (fun dflt lo hi offs K C rt dp cs pc a b v lv st lh => sI_table K cs pc lv st lh dflt lo hi offs)
def s_sl (vs : List sV) : Nat := (vs.map sCat).sum
def s_args : Nat → List sV → sL
  | _, [] => []
  | i, v :: vs => (i, v) :: s_args (bif Nat.beq (sCat v) 2 then i + 2 else i + 1) vs
noncomputable def sCall (ih : sI → Nat → Nat → Nat → sL → List sV → sH → Option (List sLf)) (d : Nat) (cs : sI) (j : Nat) (as : List sV) (lh : sH) : Option (List sLf) := match d with
  | 0 => none
  | d + 1 => bif Nat.ble (s_sl as) (gMax j) then ih cs j d 0 (s_args 0 as) [] lh else none
noncomputable def sStep (ih : sI → Nat → Nat → Nat → sL → List sV → sH → Option (List sLf)) (cs : sI) (j d pc : Nat) (lv : sL) (st : List sV) (lh : sH) : Option (List sLf) := fNat pc (fun pc => match sAtt j pc with
  | none => none
  | some e => sIns e.2.1 (fun cs => ih cs j d) (sCall ih d) (gRt j) (Nat.ble 1 d) cs pc e.2.2.1 e.2.2.2.1 e.2.2.2.2.1 lv st lh)
noncomputable def sRun (n : Nat) : sI → Nat → Nat → Nat → sL → List sV → sH → Option (List sLf) := Nat.rec (motive := fun _ => sI → Nat → Nat → Nat → sL → List sV → sH → Option (List sLf)) (fun _ _ _ _ _ _ _ => none) (fun _ ih => sStep ih) n
theorem sRun_zero : sRun 0 = fun _ _ _ _ _ _ _ => none := rfl
theorem sRun_succ (n : Nat) : sRun (n + 1) = sStep (sRun n) := rfl
end
section
/-! THE SYMBOLIC RUN COVERS THE PURE RUN (printed by wip/gen/gen13.py). -/
def gF2 {α β : Type} (R : α → β → Prop) : List α → List β → Prop
  | [], [] => True
  | a :: l, b :: m => R a b ∧ gF2 R l m
  | _, _ => False
theorem gF2.cases {α β : Type} {R : α → β → Prop} {l : List α} {m : List β} (h : gF2 R l m) : (l = [] ∧ m = []) ∨ ∃ a l' b m', l = a :: l' ∧ m = b :: m' ∧ R a b ∧ gF2 R l' m' := by
  cases l with
  | nil => cases m with
    | nil => exact Or.inl ⟨rfl, rfl⟩
    | cons b m => exact h.elim
  | cons a l => cases m with
    | nil => exact h.elim
    | cons b m => exact Or.inr ⟨a, l, b, m, rfl, rfl, h.1, h.2⟩
theorem gF2.app {α β : Type} {R : α → β → Prop} {l2 : List α} {m2 : List β} (h2 : gF2 R l2 m2) : ∀ {l : List α} {m : List β}, gF2 R l m → gF2 R (l ++ l2) (m ++ m2) := by
  intro l
  induction l with
  | nil => intro m h; cases m with
    | nil => exact h2
    | cons b m => exact h.elim
  | cons a l ih => intro m h; cases m with
    | nil => exact h.elim
    | cons b m => exact ⟨h.1, ih h.2⟩
theorem gF2.len {α β : Type} {R : α → β → Prop} : ∀ {l : List α} {m : List β}, gF2 R l m → l.length = m.length := by
  intro l
  induction l with
  | nil => intro m h; cases m with
    | nil => rfl
    | cons b m => exact h.elim
  | cons a l ih => intro m h; cases m with
    | nil => exact h.elim
    | cons b m => simp [ih h.2]
theorem gF2.drop {α β : Type} {R : α → β → Prop} (n : Nat) : ∀ {l : List α} {m : List β}, gF2 R l m → gF2 R (l.drop n) (m.drop n) := by
  induction n with
  | zero => intro l m h; exact h
  | succ n ih => intro l m h; cases l with
    | nil => cases m with
      | nil => exact h
      | cons b m => exact h.elim
    | cons a l => cases m with
      | nil => exact h.elim
      | cons b m => exact ih h.2
theorem gF2.take {α β : Type} {R : α → β → Prop} (n : Nat) : ∀ {l : List α} {m : List β}, gF2 R l m → gF2 R (l.take n) (m.take n) := by
  induction n with
  | zero => intro l m h; exact trivial
  | succ n ih => intro l m h; cases l with
    | nil => cases m with
      | nil => exact h
      | cons b m => exact h.elim
    | cons a l => cases m with
      | nil => exact h.elim
      | cons b m => exact ⟨h.1, ih h.2⟩
theorem gF2.rev {α β : Type} {R : α → β → Prop} : ∀ {l : List α} {m : List β}, gF2 R l m → gF2 R l.reverse m.reverse := by
  intro l
  induction l with
  | nil => intro m h; cases m with
    | nil => exact h
    | cons b m => exact h.elim
  | cons a l ih => intro m h; cases m with
    | nil => exact h.elim
    | cons b m =>
      rw [List.reverse_cons, List.reverse_cons]
      exact gF2.app (l2 := [a]) (m2 := [b]) ⟨h.1, trivial⟩ (ih h.2)
def sRel (ρ : Nat → Int32) (v : sV) (w : Value) : Prop := match v.1 with
  | 0 => ∃ x : Int32, w = .int x ∧ v.2.1 ≤ x.toInt ∧ x.toInt ≤ v.2.2
  | 1 => ∃ x : Int64, w = .long x ∧ v.2.1 ≤ x.toInt ∧ x.toInt ≤ v.2.2
  | 2 => w = .null
  | 3 => w = .ref v.2.1.toNat
  | 4 => w = .retAddr 0
  | k => 10 ≤ k ∧ w = .int (ρ (k - 10))
def sSgn (x y : Int32) : Int32 := if x < y then -1 else if x = y then 0 else 1
def sSg (ρ : Nat → Int32) : Prop := ρ 6 = sSgn (ρ 3) (ρ 4) ∧ ρ 7 = sSgn (ρ 2) (ρ 4)
def sOK (ρ : Nat → Int32) (cs : sI) : Prop := sSg ρ ∧ ∀ k, (cs.getD k sFull).1 ≤ (ρ k).toInt ∧ (ρ k).toInt ≤ (cs.getD k sFull).2
def sRS (ρ : Nat → Int32) (st : List sV) (st' : List Value) : Prop := gF2 (sRel ρ) st st'
def sRL (ρ : Nat → Int32) (lv : sL) (lv' : gL) : Prop := gF2 (fun a b => a.1 = b.1 ∧ sRel ρ a.2 b.2) lv lv'
def sRC (ρ : Nat → Int32) (c : sC) (c' : gC) : Prop := match c' with
  | .inl o => c.1 < 100 ∧ o.1 = c.1 ∧ ∀ j, sRel ρ (sGet c j) (o.2 j)
  | .inr y => 100 ≤ c.1 ∧ y.1 = c.1 - 100 ∧ y.2.1 = c.2.1 ∧ ∀ j, sRel ρ (sGet c j) (y.2.2 j)
def sRH (ρ : Nat → Int32) (lh : sH) (lh' : gH) : Prop := gF2 (sRC ρ) lh lh'
def sGood (ρ : Nat → Int32) (L : List sLf) (q : Option gO) : Prop := ∃ f ∈ L, ∃ o : gO, q = some o ∧ sOK ρ f.1 ∧ sRH ρ f.2.1 o.1 ∧ o.2.1 = f.2.2.1 ∧ sRS ρ f.2.2.2 o.2.2
def sSim (ρ : Nat → Int32) (r : Option (List sLf)) (q : Option gO) : Prop := ∀ L, r = some L → sGood ρ L q
theorem sSim.none {ρ : Nat → Int32} {q : Option gO} : sSim ρ none q := fun L h => by cases h
theorem sSim.app {ρ : Nat → Int32} {a b : Option (List sLf)} {q : Option gO} (h : sSim ρ a q ∨ sSim ρ b q) : sSim ρ (sApp a b) q := by
  intro L hL
  cases a with
  | none => cases hL
  | some x =>
    cases b with
    | none => cases hL
    | some y =>
      have e : x ++ y = L := Option.some.inj hL
      rcases h with h | h
      · obtain ⟨f, hf, r⟩ := h x rfl
        exact ⟨f, by rw [← e]; exact List.mem_append_left _ hf, r⟩
      · obtain ⟨f, hf, r⟩ := h y rfl
        exact ⟨f, by rw [← e]; exact List.mem_append_right _ hf, r⟩
theorem sIv_var (cs : sI) (m : Nat) (p : Int × Int) : sIv cs (m + 10, p) = cs.getD m sFull := by
  show (match fNth cs m with
    | some p => p
    | none => sFull) = _
  rw [fNth_eq, List.getD_eq_getElem?_getD]
  cases cs[m]? <;> rfl
theorem sInt {ρ : Nat → Int32} {cs : sI} {v : sV} {w : Value} (hcs : sOK ρ cs) (hi : sIsI v = true) (h : sRel ρ v w) : ∃ x : Int32, w = .int x ∧ (sIv cs v).1 ≤ x.toInt ∧ x.toInt ≤ (sIv cs v).2 ∧ (Nat.ble 10 v.1 = true → ρ (v.1 - 10) = x) := by
  obtain ⟨k, p⟩ := v
  unfold sIsI at hi
  rw [Bool.or_eq_true] at hi
  rcases hi with hi | hi
  · have hk : k = 0 := Nat.eq_of_beq_eq_true hi
    subst hk
    obtain ⟨x, h1, h2, h3⟩ := h
    exact ⟨x, h1, h2, h3, fun z => by cases z⟩
  · have hk : 10 ≤ k := Nat.le_of_ble_eq_true hi
    obtain ⟨m, rfl⟩ : ∃ m, k = m + 10 := ⟨k - 10, by omega⟩
    obtain ⟨-, h1⟩ : 10 ≤ m + 10 ∧ w = .int (ρ (m + 10 - 10)) := h
    have e : sIv cs (m + 10, p) = cs.getD m sFull := sIv_var cs m p
    rw [e]
    exact ⟨_, h1, (hcs.2 m).1, (hcs.2 m).2, fun _ => rfl⟩
theorem sLong {ρ : Nat → Int32} {v : sV} {w : Value} (hi : sIsL v = true) (h : sRel ρ v w) : ∃ x : Int64, w = .long x ∧ v.2.1 ≤ x.toInt ∧ x.toInt ≤ v.2.2 := by
  obtain ⟨k, p⟩ := v
  have hk : k = 1 := Nat.eq_of_beq_eq_true hi
  subst hk
  exact h
theorem sRefA {ρ : Nat → Int32} {v : sV} {w : Value} (hi : sIsA v = true) (h : sRel ρ v w) : w = .null ∨ ∃ i, w = .ref i := by
  obtain ⟨k, p⟩ := v
  unfold sIsA at hi
  rw [Bool.or_eq_true] at hi
  rcases hi with hi | hi
  · have hk : k = 2 := Nat.eq_of_beq_eq_true hi
    subst hk
    exact Or.inl h
  · have hk : k = 3 := Nat.eq_of_beq_eq_true hi
    subst hk
    exact Or.inr ⟨_, h⟩
theorem sRef3 {ρ : Nat → Int32} {v : sV} {w : Value} (hi : Nat.beq v.1 3 = true) (h : sRel ρ v w) : w = .ref v.2.1.toNat := by
  obtain ⟨k, p⟩ := v
  have hk : k = 3 := Nat.eq_of_beq_eq_true hi
  subst hk
  exact h
theorem sRef2 {ρ : Nat → Int32} {v : sV} {w : Value} (hi : Nat.beq v.1 2 = true) (h : sRel ρ v w) : w = .null := by
  obtain ⟨k, p⟩ := v
  have hk : k = 2 := Nat.eq_of_beq_eq_true hi
  subst hk
  exact h
theorem sCat_ok {ρ : Nat → Int32} {v : sV} {w : Value} (h : sRel ρ v w) : w.category = sCat v := by
  obtain ⟨k, p⟩ := v
  match k, h with
  | 0, ⟨x, h1, _⟩ => rw [h1]; rfl
  | 1, ⟨x, h1, _⟩ => rw [h1]; rfl
  | 2, h => rw [show w = .null from h]; rfl
  | 3, h => rw [show w = .ref p.1.toNat from h]; rfl
  | 4, h => rw [show w = .retAddr 0 from h]; rfl
  | k + 5, h => rw [show w = .int (ρ (k + 5 - 10)) from h.2]; rfl
theorem sK0_ok {ρ : Nat → Int32} {x : Int32} : sRel ρ (sK0 x.toInt) (.int x) := ⟨x, rfl, Int.le_refl _, Int.le_refl _⟩
theorem sFull_ok (x : Int32) : sFull.1 ≤ x.toInt ∧ x.toInt ≤ sFull.2 := by
  have h1 := x.le_toInt
  have h2 := x.toInt_lt
  unfold sFull
  dsimp only
  omega
theorem sFulL_ok (x : Int64) : sFulL.1 ≤ x.toInt ∧ x.toInt ≤ sFulL.2 := by
  have h1 := x.le_toInt
  have h2 := x.toInt_lt
  unfold sFulL
  dsimp only
  omega
theorem sOne_ok {X : Int × Int} {x : Int32} (h : sOne X = true) (h1 : X.1 ≤ x.toInt) (h2 : x.toInt ≤ X.2) : Int32.ofInt X.1 = x := by
  have e : X.1 = X.2 := of_decide_eq_true h
  have e2 : X.1 = x.toInt := by omega
  rw [e2]
  exact Int32.ofInt_toInt x
theorem sOneL_ok {X : Int × Int} {x : Int64} (h : sOne X = true) (h1 : X.1 ≤ x.toInt) (h2 : x.toInt ≤ X.2) : Int64.ofInt X.1 = x := by
  have e : X.1 = X.2 := of_decide_eq_true h
  have e2 : X.1 = x.toInt := by omega
  rw [e2]
  exact Int64.ofInt_toInt x
theorem sBin_ok {ρ : Nat → Int32} {f : Int32 → Int32 → Int32} {g : Int × Int → Int × Int → Int × Int} {X Y : Int × Int} {x y : Int32} (hx : X.1 ≤ x.toInt ∧ x.toInt ≤ X.2) (hy : Y.1 ≤ y.toInt ∧ y.toInt ≤ Y.2) (hg : (g X Y).1 ≤ (f x y).toInt ∧ (f x y).toInt ≤ (g X Y).2) : sRel ρ (sBin f g X Y) (.int (f x y)) := by
  unfold sBin
  cases h : (sOne X && sOne Y) with
  | true =>
    rw [Bool.and_eq_true] at h
    show sRel ρ (sK0 _) _
    rw [sOne_ok h.1 hx.1 hx.2, sOne_ok h.2 hy.1 hy.2]
    exact sK0_ok
  | false => exact ⟨_, rfl, hg⟩
theorem sUn_ok {ρ : Nat → Int32} {f : Int32 → Int32} {X : Int × Int} {x : Int32} (hx : X.1 ≤ x.toInt ∧ x.toInt ≤ X.2) : sRel ρ (sUn f X) (.int (f x)) := by
  unfold sUn
  cases h : sOne X with
  | true =>
    show sRel ρ (sK0 _) _
    rw [sOne_ok h hx.1 hx.2]
    exact sK0_ok
  | false => exact ⟨_, rfl, sFull_ok _⟩
theorem sLbin_ok {ρ : Nat → Int32} {f : Int64 → Int64 → Int64} {X Y : Int × Int} {x y : Int64} (hx : X.1 ≤ x.toInt ∧ x.toInt ≤ X.2) (hy : Y.1 ≤ y.toInt ∧ y.toInt ≤ Y.2) : sRel ρ (sLbin f X Y) (.long (f x y)) := by
  unfold sLbin
  cases h : (sOne X && sOne Y) with
  | true =>
    rw [Bool.and_eq_true] at h
    show sRel ρ (1, _, _) _
    rw [sOneL_ok h.1 hx.1 hx.2, sOneL_ok h.2 hy.1 hy.2]
    exact ⟨_, rfl, Int.le_refl _, Int.le_refl _⟩
  | false => exact ⟨_, rfl, sFulL_ok _⟩
theorem sAny_ok (f : Int32 → Int32 → Int32) (X Y : Int × Int) (x y : Int32) : (sAny X Y).1 ≤ (f x y).toInt ∧ (f x y).toInt ≤ (sAny X Y).2 := sFull_ok _
theorem sAnd_core {x y : Int32} (hy : 0 ≤ y.toInt) : 0 ≤ (x &&& y).toInt ∧ (x &&& y).toInt ≤ y.toInt := by
  have hm : y.toBitVec.msb = false := by
    rw [BitVec.msb_eq_toInt]
    exact decide_eq_false (by show ¬ y.toBitVec.toInt < 0; exact Int.not_lt.mpr hy)
  have hm2 : (x &&& y).toBitVec.msb = false := by
    rw [Int32.toBitVec_and, BitVec.msb_and, hm, Bool.and_false]
  have e1 : y.toInt = (y.toBitVec.toNat : Int) := BitVec.toInt_eq_toNat_of_msb hm
  have e2 : (x &&& y).toInt = ((x &&& y).toBitVec.toNat : Int) := BitVec.toInt_eq_toNat_of_msb hm2
  rw [e1, e2, Int32.toBitVec_and, BitVec.toNat_and]
  exact ⟨Int.natCast_nonneg _, Int.ofNat_le.mpr Nat.and_le_right⟩
theorem gFit_l (x : Int64) : gFit .long (.long x) = true := by
  unfold gFit
  rw [Bool.and_eq_true]
  exact ⟨decide_eq_true rfl, rfl⟩
theorem sAnd_ok {X Y : Int × Int} {x y : Int32} (hy : Y.1 ≤ y.toInt ∧ y.toInt ≤ Y.2) : (sAnd X Y).1 ≤ (x &&& y).toInt ∧ (x &&& y).toInt ≤ (sAnd X Y).2 := by
  unfold sAnd
  cases h : (sOne Y && decide (0 ≤ Y.1)) with
  | false => exact sFull_ok _
  | true =>
    rw [Bool.and_eq_true, decide_eq_true_eq] at h
    have e : Y.1 = Y.2 := of_decide_eq_true h.1
    have hy0 : 0 ≤ y.toInt := by omega
    have e1 : Y.1 = y.toInt := by omega
    show (0 : Int) ≤ _ ∧ _ ≤ Y.1
    rw [e1]
    exact sAnd_core hy0
theorem gLk_ok {ρ : Nat → Int32} {k : Nat} {w : sV} : ∀ {lv : sL} {lv' : gL}, sRL ρ lv lv' → sLk k lv = some w → ∃ w', gLk k lv' = some w' ∧ sRel ρ w w' := by
  intro lv
  induction lv with
  | nil => intro lv' _ h; cases h
  | cons a l ih =>
    intro lv' hq h
    cases lv' with
    | nil => exact hq.elim
    | cons b l' =>
      have h1 : a.1 = b.1 := hq.1.1
      have h2 : sRel ρ a.2 b.2 := hq.1.2
      have h : (bif Nat.beq a.1 k then some a.2 else sLk k l) = some w := h
      unfold gLk
      rw [← h1]
      cases hb : Nat.beq a.1 k with
      | true =>
        rw [hb] at h
        have e : a.2 = w := Option.some.inj h
        exact ⟨b.2, rfl, e ▸ h2⟩
      | false =>
        rw [hb] at h
        exact ih hq.2 h
theorem s_filter {ρ : Nat → Int32} {f : Nat × sV → Bool} {g : Nat × Value → Bool} (hfg : ∀ a b, a.1 = b.1 → sRel ρ a.2 b.2 → f a = g b) : ∀ {lv : sL} {lv' : gL}, sRL ρ lv lv' → sRL ρ (lv.filter f) (lv'.filter g) := by
  intro lv
  induction lv with
  | nil => intro lv' h; cases lv' with
    | nil => exact h
    | cons b l' => exact h.elim
  | cons a l ih =>
    intro lv' hq
    cases lv' with
    | nil => exact hq.elim
    | cons b l' =>
      rw [List.filter_cons, List.filter_cons, hfg a b hq.1.1 hq.1.2]
      cases g b with
      | true => exact ⟨hq.1, ih hq.2⟩
      | false => exact ih hq.2
theorem sSt1_ok {ρ : Nat → Int32} {lv : sL} {lv' : gL} {i : Nat} {w : sV} {w' : Value} (h : sRL ρ lv lv') (hw : sRel ρ w w') : sRL ρ (sSt1 lv i w) (gSt1 lv' i w') := by
  refine And.intro ⟨rfl, hw⟩ (s_filter (fun a b h1 h2 => ?_) h)
  rw [h1, sCat_ok h2]
theorem sSt2_ok {ρ : Nat → Int32} {lv : sL} {lv' : gL} {i : Nat} {w : sV} {w' : Value} (h : sRL ρ lv lv') (hw : sRel ρ w w') : sRL ρ (sSt2 lv i w) (gSt2 lv' i w') := by
  refine And.intro ⟨rfl, hw⟩ (s_filter (fun a b h1 h2 => ?_) h)
  rw [h1, sCat_ok h2]
theorem sRH_at {ρ : Nat → Int32} {c : sC} : ∀ {lh : sH} {lh' : gH} {i : Nat}, sRH ρ lh lh' → lh[i]? = some c → ∃ c', lh'[i]? = some c' ∧ sRC ρ c c' := by
  intro lh
  induction lh with
  | nil => intro lh' i _ h; simp at h
  | cons a l ih =>
    intro lh' i hq h
    cases lh' with
    | nil => exact hq.elim
    | cons b l' =>
      cases i with
      | zero => simp at h; subst h; exact ⟨b, by simp, hq.1⟩
      | succ i => simp at h; obtain ⟨c', h1, h2⟩ := ih hq.2 h; exact ⟨c', by simp [h1], h2⟩
theorem sRH_set {ρ : Nat → Int32} {c : sC} {c' : gC} (hc : sRC ρ c c') : ∀ {lh : sH} {lh' : gH} {i : Nat}, sRH ρ lh lh' → sRH ρ (lh.set i c) (lh'.set i c') := by
  intro lh
  induction lh with
  | nil => intro lh' i h; cases lh' with
    | nil => exact h
    | cons b l' => exact h.elim
  | cons a l ih =>
    intro lh' i hq
    cases lh' with
    | nil => exact hq.elim
    | cons b l' =>
      cases i with
      | zero => exact ⟨hc, hq.2⟩
      | succ i => exact ⟨hq.1, ih hq.2⟩
theorem sRH_push {ρ : Nat → Int32} {c : sC} {c' : gC} (hc : sRC ρ c c') {lh : sH} {lh' : gH} (h : sRH ρ lh lh') : sRH ρ (lh ++ [c]) (lh' ++ [c']) := gF2.app (l2 := [c]) (m2 := [c']) ⟨hc, trivial⟩ h
theorem sRH_len {ρ : Nat → Int32} {lh : sH} {lh' : gH} (h : sRH ρ lh lh') : lh.length = lh'.length := gF2.len h
theorem sPut_ok {ρ : Nat → Int32} {c : sC} {f : Nat → Value} {j : Nat} {w : sV} {w' : Value} (h : ∀ j, sRel ρ (sGet c j) (f j)) (hw : sRel ρ w w') : ∀ k, sRel ρ (sGet (sPut c j w) k) (gup f j w' k) := by
  intro k
  show sRel ρ (bif Nat.beq k j then w else sGet c k) (bif Nat.beq k j then w' else f k)
  cases Nat.beq k j with
  | true => exact hw
  | false => exact h k
theorem sZ_ok {ρ : Nat → Int32} {ty : FieldType} (h1 : ty ≠ .float) (h2 : ty ≠ .double) : sRel ρ (sZ ty) (defaultValue ty) := by
  cases ty with
  | float => exact absurd rfl h1
  | double => exact absurd rfl h2
  | long => exact ⟨0, rfl, by decide, by decide⟩
  | object n => exact rfl
  | array t => exact rfl
  | _ => exact ⟨0, rfl, by decide, by decide⟩
def hCmp (c : Jvm.ClassFile.Cond) (a b : Int) : Prop := match c with
  | .eq => a = b
  | .ne => ¬ a = b
  | .lt => a < b
  | .ge => b ≤ a
  | .gt => b < a
  | .le => a ≤ b
theorem gCmp_iff {c : Jvm.ClassFile.Cond} {x y : Int32} : gCmp c x y = true ↔ hCmp c x.toInt y.toInt := by
  cases c <;> simp only [gCmp, hCmp, decide_eq_true_eq, Int32.lt_iff_toInt_lt, Int32.le_iff_toInt_le, ← Int32.toInt_inj]
theorem hCmp_neg {c : Jvm.ClassFile.Cond} {a b : Int} : hCmp (sNeg c) a b ↔ ¬ hCmp c a b := by
  cases c <;> simp only [sNeg, hCmp] <;> omega
theorem hCmp_flip {c : Jvm.ClassFile.Cond} {a b : Int} : hCmp (sFlip c) b a ↔ hCmp c a b := by
  cases c <;> simp only [sFlip, hCmp] <;> omega
theorem sCmp_true {c : Jvm.ClassFile.Cond} {X Y : Int × Int} {a b : Int} (h : sCmp c X Y = some true) (ha : X.1 ≤ a ∧ a ≤ X.2) (hb : Y.1 ≤ b ∧ b ≤ Y.2) : hCmp c a b := by
  cases c <;> simp only [sCmp, cond_eq_ite, Bool.and_eq_true, Bool.or_eq_true, decide_eq_true_eq] at h <;> unfold hCmp <;> dsimp only <;> (repeat' split at h) <;> first | omega | (cases h)
theorem sCmp_false {c : Jvm.ClassFile.Cond} {X Y : Int × Int} {a b : Int} (h : sCmp c X Y = some false) (ha : X.1 ≤ a ∧ a ≤ X.2) (hb : Y.1 ≤ b ∧ b ≤ Y.2) : ¬ hCmp c a b := by
  cases c <;> simp only [sCmp, cond_eq_ite, Bool.and_eq_true, Bool.or_eq_true, decide_eq_true_eq] at h <;> unfold hCmp <;> dsimp only <;> (repeat' split at h) <;> first | omega | (cases h)
theorem sCut_ok {c : Jvm.ClassFile.Cond} {X : Int × Int} {a n : Int} (h : hCmp c a n) (ha : X.1 ≤ a ∧ a ≤ X.2) : (sCut c X n).1 ≤ a ∧ a ≤ (sCut c X n).2 := by
  cases c <;> unfold hCmp at h <;> dsimp only at h <;> simp only [sCut, cond_eq_ite, decide_eq_true_eq] <;> (repeat' split) <;> (try dsimp only) <;> first | omega | (constructor <;> omega)
theorem sRef1_ok {ρ : Nat → Int32} {c : Jvm.ClassFile.Cond} {cs : sI} {v : sV} {n : Int} {x : Int32} (hcs : sOK ρ cs) (hv : Nat.ble 10 v.1 = true → ρ (v.1 - 10) = x) (h : hCmp c x.toInt n) : sOK ρ (sRef1 c cs v n) := by
  unfold sRef1
  cases hb : Nat.ble 10 v.1 with
  | false => exact hcs
  | true =>
    obtain ⟨w, p⟩ := v
    obtain ⟨m, rfl⟩ : ∃ m, w = m + 10 := ⟨w - 10, by have := Nat.le_of_ble_eq_true hb; dsimp only at this; omega⟩
    show sOK ρ (fSet cs _ m)
    rw [fSet_eq, sIv_var]
    have hv := hv hb
    refine ⟨hcs.1, fun k => ?_⟩
    by_cases hk : k = m
    · subst hk
      by_cases hl : k < cs.length
      · rw [List.getD_eq_getElem?_getD, List.getElem?_set_self hl]
        have h2 := hcs.2 k
        have hv' : ρ k = x := hv
        rw [hv'] at h2 ⊢
        exact sCut_ok h h2
      · rw [List.getD_eq_getElem?_getD, List.getElem?_eq_none (by rw [List.length_set]; omega)]
        exact sFull_ok _
    · rw [List.getD_eq_getElem?_getD, List.getElem?_set_ne (Ne.symm hk), ← List.getD_eq_getElem?_getD]
      exact hcs.2 k
theorem sRef_ok {ρ : Nat → Int32} {c : Jvm.ClassFile.Cond} {cs : sI} {v u : sV} {x y : Int32} (hcs : sOK ρ cs) (hx : (sIv cs v).1 ≤ x.toInt ∧ x.toInt ≤ (sIv cs v).2 ∧ (Nat.ble 10 v.1 = true → ρ (v.1 - 10) = x)) (hy : (sIv cs u).1 ≤ y.toInt ∧ y.toInt ≤ (sIv cs u).2 ∧ (Nat.ble 10 u.1 = true → ρ (u.1 - 10) = y)) (h : hCmp c x.toInt y.toInt) : sOK ρ (sRef c cs v u) := by
  unfold sRef
  cases h1 : decide ((sIv cs u).1 = (sIv cs u).2) with
  | true =>
    have e := of_decide_eq_true h1
    refine sRef1_ok hcs hx.2.2 ?_
    rw [show (sIv cs u).1 = y.toInt by omega]
    exact h
  | false =>
    show sOK ρ (bif _ then _ else _)
    cases h2 : decide ((sIv cs v).1 = (sIv cs v).2) with
    | true =>
      have e := of_decide_eq_true h2
      refine sRef1_ok hcs hy.2.2 ?_
      rw [show (sIv cs v).1 = x.toInt by omega]
      exact hCmp_flip.mpr h
    | false => exact hcs
theorem sBr3_ok {ρ : Nat → Int32} {c : Jvm.ClassFile.Cond} {cs : sI} {v u : sV} {x y : Int32} {k : sI → Option (List sLf)} {q : Option gO} (hcs : sOK ρ cs) (hx : (sIv cs v).1 ≤ x.toInt ∧ x.toInt ≤ (sIv cs v).2 ∧ (Nat.ble 10 v.1 = true → ρ (v.1 - 10) = x)) (hy : (sIv cs u).1 ≤ y.toInt ∧ y.toInt ≤ (sIv cs u).2 ∧ (Nat.ble 10 u.1 = true → ρ (u.1 - 10) = y)) (h : hCmp c x.toInt y.toInt) (hk : ∀ cs, sOK ρ cs → sSim ρ (k cs) q) : sSim ρ (sBr3 c cs v u k) q := by
  unfold sBr3
  split
  · rename_i h9
    exact absurd h (sCmp_false h9 ⟨hx.1, hx.2.1⟩ ⟨hy.1, hy.2.1⟩)
  · exact hk _ (sRef_ok hcs hx hy h)
theorem sBr1_ok {ρ : Nat → Int32} {c : Jvm.ClassFile.Cond} {cs : sI} {v u : sV} {x y : Int32} {kt kf : sI → Option (List sLf)} {qt qf : Option gO} (hcs : sOK ρ cs) (hx : (sIv cs v).1 ≤ x.toInt ∧ x.toInt ≤ (sIv cs v).2 ∧ (Nat.ble 10 v.1 = true → ρ (v.1 - 10) = x)) (hy : (sIv cs u).1 ≤ y.toInt ∧ y.toInt ≤ (sIv cs u).2 ∧ (Nat.ble 10 u.1 = true → ρ (u.1 - 10) = y)) (ht : gCmp c x y = true → ∀ cs, sOK ρ cs → sSim ρ (kt cs) qt) (hf : gCmp c x y = false → ∀ cs, sOK ρ cs → sSim ρ (kf cs) qf) : sSim ρ (sBr1 c cs v u kt kf) (bif gCmp c x y then qt else qf) := by
  unfold sBr1
  split
  · rename_i h
    have hq := gCmp_iff.mpr (sCmp_true h ⟨hx.1, hx.2.1⟩ ⟨hy.1, hy.2.1⟩)
    rw [hq]
    exact ht hq _ hcs
  · rename_i h
    have hq : gCmp c x y = false := by
      cases hq : gCmp c x y with
      | false => rfl
      | true => exact absurd (gCmp_iff.mp hq) (sCmp_false h ⟨hx.1, hx.2.1⟩ ⟨hy.1, hy.2.1⟩)
    rw [hq]
    exact hf hq _ hcs
  · have hn : ∀ {c : Jvm.ClassFile.Cond}, gCmp c x y = false → hCmp (sNeg c) x.toInt y.toInt := fun hq => hCmp_neg.mpr (fun z => by rw [gCmp_iff.mpr z] at hq; cases hq)
    cases hq : gCmp c x y with
    | true =>
      have h1 := gCmp_iff.mp hq
      cases c with
      | eq => exact sSim.app (Or.inr (sSim.app (Or.inr (sBr3_ok hcs hx hy h1 (ht hq)))))
      | ne =>
        have h2 : x.toInt < y.toInt ∨ y.toInt < x.toInt := by
          have h3 : ¬ x.toInt = y.toInt := h1
          omega
        rcases h2 with h2 | h2
        · exact sSim.app (Or.inl (sBr3_ok (c := .lt) hcs hx hy h2 (ht hq)))
        · exact sSim.app (Or.inr (sSim.app (Or.inl (sBr3_ok (c := .gt) hcs hx hy h2 (ht hq)))))
      | lt => exact sSim.app (Or.inl (ht hq _ (sRef_ok hcs hx hy h1)))
      | ge => exact sSim.app (Or.inl (ht hq _ (sRef_ok hcs hx hy h1)))
      | gt => exact sSim.app (Or.inl (ht hq _ (sRef_ok hcs hx hy h1)))
      | le => exact sSim.app (Or.inl (ht hq _ (sRef_ok hcs hx hy h1)))
    | false =>
      have h1 := hn hq
      cases c with
      | ne => exact sSim.app (Or.inr (sSim.app (Or.inr (sBr3_ok (c := .eq) hcs hx hy h1 (hf hq)))))
      | eq =>
        have h2 : x.toInt < y.toInt ∨ y.toInt < x.toInt := by
          have h3 : ¬ x.toInt = y.toInt := h1
          omega
        rcases h2 with h2 | h2
        · exact sSim.app (Or.inl (sBr3_ok (c := .lt) hcs hx hy h2 (hf hq)))
        · exact sSim.app (Or.inr (sSim.app (Or.inl (sBr3_ok (c := .gt) hcs hx hy h2 (hf hq)))))
      | lt => exact sSim.app (Or.inr (hf hq _ (sRef_ok hcs hx hy h1)))
      | ge => exact sSim.app (Or.inr (hf hq _ (sRef_ok hcs hx hy h1)))
      | gt => exact sSim.app (Or.inr (hf hq _ (sRef_ok hcs hx hy h1)))
      | le => exact sSim.app (Or.inr (hf hq _ (sRef_ok hcs hx hy h1)))
theorem gCmp_self {c : Jvm.ClassFile.Cond} {x : Int32} : gCmp c x x = sSelf c := by
  cases hs : sSelf c with
  | true =>
    refine gCmp_iff.mpr ?_
    cases c <;> first | exact rfl | exact Int.le_refl _ | cases hs
  | false =>
    cases hq : gCmp c x x with
    | false => rfl
    | true =>
      have h := gCmp_iff.mp hq
      cases c <;> first | (cases hs; done) | exact absurd rfl h | exact absurd h (Int.lt_irrefl _)
theorem gCmp_sg {x y z : Int32} (h : z = sSgn x y) (c : Jvm.ClassFile.Cond) : gCmp c x y = gCmp c z 0 := by
  have e : (hCmp c x.toInt y.toInt ↔ hCmp c z.toInt (0 : Int32).toInt) := by
    unfold sSgn at h
    rw [h, show (0 : Int32).toInt = 0 from rfl]
    by_cases h1 : x < y
    · rw [if_pos h1, show (-1 : Int32).toInt = -1 from rfl]
      rw [Int32.lt_iff_toInt_lt] at h1
      cases c <;> simp only [hCmp] <;> omega
    · rw [if_neg h1]
      rw [Int32.lt_iff_toInt_lt] at h1
      by_cases h2 : x = y
      · rw [if_pos h2, h2, show (0 : Int32).toInt = 0 from rfl]
        cases c <;> simp only [hCmp] <;> omega
      · rw [if_neg h2, show (1 : Int32).toInt = 1 from rfl]
        have h3 : ¬ x.toInt = y.toInt := fun z => h2 (Int32.toInt_inj.mp z)
        cases c <;> simp only [hCmp] <;> omega
  cases hq : gCmp c z 0 with
  | true => exact gCmp_iff.mpr (e.mpr (gCmp_iff.mp hq))
  | false =>
    cases hr : gCmp c x y with
    | false => rfl
    | true => rw [gCmp_iff.mpr (e.mp (gCmp_iff.mp hr))] at hq; cases hq
theorem gCmp_flip {c : Jvm.ClassFile.Cond} {x y : Int32} : gCmp (sFlip c) y x = gCmp c x y := by
  cases hq : gCmp c x y with
  | true => exact gCmp_iff.mpr (hCmp_flip.mpr (gCmp_iff.mp hq))
  | false =>
    cases hr : gCmp (sFlip c) y x with
    | false => rfl
    | true => rw [gCmp_iff.mpr (hCmp_flip.mp (gCmp_iff.mp hr))] at hq; cases hq
theorem sBr2_ok {ρ : Nat → Int32} {c : Jvm.ClassFile.Cond} {cs : sI} {v u : sV} {x y : Int32} {kt kf : sI → Option (List sLf)} {qt qf : Option gO} (hcs : sOK ρ cs) (hx : (sIv cs v).1 ≤ x.toInt ∧ x.toInt ≤ (sIv cs v).2 ∧ (Nat.ble 10 v.1 = true → ρ (v.1 - 10) = x)) (hy : (sIv cs u).1 ≤ y.toInt ∧ y.toInt ≤ (sIv cs u).2 ∧ (Nat.ble 10 u.1 = true → ρ (u.1 - 10) = y)) (ht : gCmp c x y = true → ∀ cs, sOK ρ cs → sSim ρ (kt cs) qt) (hf : gCmp c x y = false → ∀ cs, sOK ρ cs → sSim ρ (kf cs) qf) : sSim ρ (bif Nat.ble 10 v.1 && Nat.beq v.1 u.1 then (bif sSelf c then kt cs else kf cs) else sBr1 c cs v u kt kf) (bif gCmp c x y then qt else qf) := by
  cases hq3 : (Nat.ble 10 v.1 && Nat.beq v.1 u.1) with
  | false => exact sBr1_ok hcs hx hy ht hf
  | true =>
    rw [Bool.and_eq_true] at hq3
    have e1 : v.1 = u.1 := Nat.eq_of_beq_eq_true hq3.2
    have xy : x = y := by
      have h1 := hx.2.2 hq3.1
      have h2 := hy.2.2 (by rw [← e1]; exact hq3.1)
      rw [← h1, ← h2, e1]
    subst xy
    rw [gCmp_self] at ht hf ⊢
    cases hs : sSelf c with
    | true => exact ht hs _ hcs
    | false => exact hf hs _ hcs
theorem sBr_ok {ρ : Nat → Int32} {c : Jvm.ClassFile.Cond} {cs : sI} {v u : sV} {x y : Int32} {kt kf : sI → Option (List sLf)} {qt qf : Option gO} (hcs : sOK ρ cs) (hx : (sIv cs v).1 ≤ x.toInt ∧ x.toInt ≤ (sIv cs v).2 ∧ (Nat.ble 10 v.1 = true → ρ (v.1 - 10) = x)) (hy : (sIv cs u).1 ≤ y.toInt ∧ y.toInt ≤ (sIv cs u).2 ∧ (Nat.ble 10 u.1 = true → ρ (u.1 - 10) = y)) (ht : gCmp c x y = true → ∀ cs, sOK ρ cs → sSim ρ (kt cs) qt) (hf : gCmp c x y = false → ∀ cs, sOK ρ cs → sSim ρ (kf cs) qf) : sSim ρ (sBr c cs v u kt kf) (bif gCmp c x y then qt else qf) := by
  have h6 : ∀ m : Nat, (sIv cs (m + 10, 0, 0)).1 ≤ (ρ m).toInt ∧ (ρ m).toInt ≤ (sIv cs (m + 10, 0, 0)).2 ∧ (Nat.ble 10 (m + 10) = true → ρ (m + 10 - 10) = ρ m) := fun m => by
    rw [show sIv cs (m + 10, 0, 0) = cs.getD m sFull from sIv_var cs m (0, 0)]
    exact ⟨(hcs.2 m).1, (hcs.2 m).2, fun _ => rfl⟩
  have h0 : (sIv cs (sK0 0)).1 ≤ (0 : Int32).toInt ∧ (0 : Int32).toInt ≤ (sIv cs (sK0 0)).2 ∧ (Nat.ble 10 (sK0 0).1 = true → ρ ((sK0 0).1 - 10) = 0) := ⟨Int.le_refl _, Int.le_refl _, fun z => by cases z⟩
  have hvx : ∀ m : Nat, Nat.beq v.1 (m + 10) = true → ρ m = x := fun m hm => by
    have e1 : v.1 = m + 10 := Nat.eq_of_beq_eq_true hm
    have := hx.2.2 (by rw [e1]; exact Nat.ble_eq.mpr (Nat.le_add_left 10 m))
    rw [e1] at this
    exact this
  have huy : ∀ m : Nat, Nat.beq u.1 (m + 10) = true → ρ m = y := fun m hm => by
    have e1 : u.1 = m + 10 := Nat.eq_of_beq_eq_true hm
    have := hy.2.2 (by rw [e1]; exact Nat.ble_eq.mpr (Nat.le_add_left 10 m))
    rw [e1] at this
    exact this
  have key : ∀ (m : Nat) (t : Bool), (∀ c, gCmp c x y = gCmp (bif t then sFlip c else c) (ρ m) 0) → sSim ρ (sBr1 (bif t then sFlip c else c) cs (m + 10, 0, 0) (sK0 0) kt kf) (bif gCmp c x y then qt else qf) := fun m t e => by
    rw [e c] at ht hf ⊢
    exact sBr1_ok hcs (h6 m) h0 ht hf
  unfold sBr sPair
  cases h1 : Nat.beq u.1 14 with
  | true =>
    dsimp only [cond_true]
    cases h2 : Nat.beq v.1 13 with
    | true => exact key 6 false (fun c => by rw [← hvx 3 h2, ← huy 4 h1]; exact gCmp_sg hcs.1.1 c)
    | false =>
      dsimp only [cond_false]
      cases h3 : Nat.beq v.1 12 with
      | true => exact key 7 false (fun c => by rw [← hvx 2 h3, ← huy 4 h1]; exact gCmp_sg hcs.1.2 c)
      | false => exact sBr2_ok hcs hx hy ht hf
  | false =>
    dsimp only [cond_false]
    cases h2 : Nat.beq v.1 14 with
    | false => exact sBr2_ok hcs hx hy ht hf
    | true =>
      dsimp only [cond_true]
      cases h3 : Nat.beq u.1 13 with
      | true => exact key 6 true (fun c => by rw [← hvx 4 h2, ← huy 3 h3, ← gCmp_flip]; exact gCmp_sg hcs.1.1 (sFlip c))
      | false =>
        dsimp only [cond_false]
        cases h4 : Nat.beq u.1 12 with
        | true => exact key 7 true (fun c => by rw [← hvx 4 h2, ← huy 2 h4, ← gCmp_flip]; exact gCmp_sg hcs.1.2 (sFlip c))
        | false => exact sBr2_ok hcs hx hy ht hf
theorem sEach_ok {ρ : Nat → Int32} {cs : sI} {v : sV} {x : Int32} {k : sI → Int → Option (List sLf)} {q : Option gO} (hcs : sOK ρ cs) (hv : Nat.ble 10 v.1 = true → ρ (v.1 - 10) = x) (hk : ∀ cs, sOK ρ cs → sSim ρ (k cs x.toInt) q) : ∀ (m : Nat) (n : Int), n ≤ x.toInt → x.toInt ≤ n + m → sSim ρ (sEach cs v k m n) q := by
  intro m
  induction m with
  | zero =>
    intro n h1 h2
    have e : n = x.toInt := by omega
    subst e
    exact hk _ (sRef1_ok hcs hv rfl)
  | succ m ih =>
    intro n h1 h2
    by_cases e : n = x.toInt
    · subst e
      exact sSim.app (Or.inl (hk _ (sRef1_ok hcs hv rfl)))
    · refine sSim.app (Or.inr ?_)
      rw [fInt_eq]
      exact ih (n + 1) (by omega) (by omega)
theorem sIdx_ok {ρ : Nat → Int32} {cs : sI} {v : sV} {x : Int32} {n : Nat} {k : sI → Int → Option (List sLf)} {q : Option gO} (hcs : sOK ρ cs) (hx : (sIv cs v).1 ≤ x.toInt ∧ x.toInt ≤ (sIv cs v).2 ∧ (Nat.ble 10 v.1 = true → ρ (v.1 - 10) = x)) (hk : gIn x n = true → x.toInt.toNat = x.toNatClampNeg → ∀ cs, sOK ρ cs → sSim ρ (k cs x.toInt) q) : sSim ρ (sIdx cs v n k) q := by
  unfold sIdx
  cases h : (decide (0 ≤ (sIv cs v).1) && (decide ((sIv cs v).2 < (n : Int)) && (decide ((sIv cs v).1 ≤ (sIv cs v).2) && decide ((sIv cs v).2 - (sIv cs v).1 ≤ 64)))) with
  | false => exact sSim.none
  | true =>
    simp only [Bool.and_eq_true, decide_eq_true_eq] at h
    obtain ⟨h1, h2, h3, h4⟩ := h
    have h0 : 0 ≤ x.toInt := by omega
    have hc : x.toNatClampNeg = x.toInt.toNat := rfl
    refine sEach_ok hcs hx.2.2 (hk ?_ hc.symm) _ _ hx.1 (by omega)
    unfold gIn
    rw [Bool.and_eq_true, Bool.not_eq_true', decide_eq_false_iff_not, Int32.lt_iff_toInt_lt]
    refine ⟨by rw [show (0 : Int32).toInt = 0 from rfl]; omega, Nat.blt_eq.mpr (by rw [hc]; omega)⟩
section SROWS
variable {ρ : Nat → Int32} {K : Nat → gL → List Value → gH → Option gO} {C : Nat → List Value → gH → Option gO} {sK : sI → Nat → sL → List sV → sH → Option (List sLf)} {sCl : sI → Nat → List sV → sH → Option (List sLf)} {rt : Option FieldType} {dp : Bool} {cs : sI} {pc a b : Nat} {v : Int} {lv : sL} {st : List sV} {lh : sH} {lv' : gL} {st' : List Value} {lh' : gH}
theorem ss_iload (hK : ∀ (cs : sI) (pc : Nat) (lv : sL) (lv' : gL) (st : List sV) (st' : List Value) (lh : sH) (lh' : gH), sOK ρ cs → sRL ρ lv lv' → sRS ρ st st' → sRH ρ lh lh' → sSim ρ (sK cs pc lv st lh) (K pc lv' st' lh')) (hcs : sOK ρ cs) (hlv : sRL ρ lv lv') (hst : sRS ρ st st') (hlh : sRH ρ lh lh') {i n : Nat} : sSim ρ (sI_load sK cs pc lv st lh sIsI i n) (gI_iload K pc lv' st' lh' i n) := by
  unfold sI_load
  cases hv : sLk i lv with
  | none => exact sSim.none
  | some w =>
    dsimp only
    cases ht : sIsI w with
    | false => exact sSim.none
    | true =>
      obtain ⟨w', h1, h2⟩ := gLk_ok hlv hv
      obtain ⟨x, rfl, -⟩ := sInt hcs ht h2
      unfold gI_iload
      rw [h1]
      first | exact hK _ _ _ _ _ _ _ _ hcs hlv (And.intro h2 hst) hlh | (simp only [fNth_eq, fSet_eq, fSnoc_eq, fLen_eq, fNat_eq, fV_eq, fFilt_eq, cond_true]; exact hK _ _ _ _ _ _ _ _ hcs hlv (And.intro h2 hst) hlh)
theorem ss_lload (hK : ∀ (cs : sI) (pc : Nat) (lv : sL) (lv' : gL) (st : List sV) (st' : List Value) (lh : sH) (lh' : gH), sOK ρ cs → sRL ρ lv lv' → sRS ρ st st' → sRH ρ lh lh' → sSim ρ (sK cs pc lv st lh) (K pc lv' st' lh')) (hcs : sOK ρ cs) (hlv : sRL ρ lv lv') (hst : sRS ρ st st') (hlh : sRH ρ lh lh') {i n : Nat} : sSim ρ (sI_load sK cs pc lv st lh sIsL i n) (gI_lload K pc lv' st' lh' i n) := by
  unfold sI_load
  cases hv : sLk i lv with
  | none => exact sSim.none
  | some w =>
    dsimp only
    cases ht : sIsL w with
    | false => exact sSim.none
    | true =>
      obtain ⟨w', h1, h2⟩ := gLk_ok hlv hv
      obtain ⟨x, rfl, -⟩ := sLong ht h2
      unfold gI_lload
      rw [h1]
      first | exact hK _ _ _ _ _ _ _ _ hcs hlv (And.intro h2 hst) hlh | (simp only [fNth_eq, fSet_eq, fSnoc_eq, fLen_eq, fNat_eq, fV_eq, fFilt_eq, cond_true]; exact hK _ _ _ _ _ _ _ _ hcs hlv (And.intro h2 hst) hlh)
theorem ss_aload (hK : ∀ (cs : sI) (pc : Nat) (lv : sL) (lv' : gL) (st : List sV) (st' : List Value) (lh : sH) (lh' : gH), sOK ρ cs → sRL ρ lv lv' → sRS ρ st st' → sRH ρ lh lh' → sSim ρ (sK cs pc lv st lh) (K pc lv' st' lh')) (hcs : sOK ρ cs) (hlv : sRL ρ lv lv') (hst : sRS ρ st st') (hlh : sRH ρ lh lh') {i n : Nat} : sSim ρ (sI_load sK cs pc lv st lh sIsA i n) (gI_aload K pc lv' st' lh' i n) := by
  unfold sI_load
  cases hv : sLk i lv with
  | none => exact sSim.none
  | some w =>
    dsimp only
    cases ht : sIsA w with
    | false => exact sSim.none
    | true =>
      obtain ⟨w', h1, h2⟩ := gLk_ok hlv hv
      rcases sRefA ht h2 with rfl | ⟨x, rfl⟩
      · unfold gI_aload
        rw [h1]
        first | exact hK _ _ _ _ _ _ _ _ hcs hlv (And.intro h2 hst) hlh | (simp only [fNth_eq, fSet_eq, fSnoc_eq, fLen_eq, fNat_eq, fV_eq, fFilt_eq, cond_true]; exact hK _ _ _ _ _ _ _ _ hcs hlv (And.intro h2 hst) hlh)
      · unfold gI_aload
        rw [h1]
        first | exact hK _ _ _ _ _ _ _ _ hcs hlv (And.intro h2 hst) hlh | (simp only [fNth_eq, fSet_eq, fSnoc_eq, fLen_eq, fNat_eq, fV_eq, fFilt_eq, cond_true]; exact hK _ _ _ _ _ _ _ _ hcs hlv (And.intro h2 hst) hlh)
theorem ss_istore (hK : ∀ (cs : sI) (pc : Nat) (lv : sL) (lv' : gL) (st : List sV) (st' : List Value) (lh : sH) (lh' : gH), sOK ρ cs → sRL ρ lv lv' → sRS ρ st st' → sRH ρ lh lh' → sSim ρ (sK cs pc lv st lh) (K pc lv' st' lh')) (hcs : sOK ρ cs) (hlv : sRL ρ lv lv') (hst : sRS ρ st st') (hlh : sRH ρ lh lh') {i n : Nat} : sSim ρ (sI_store sK cs pc lv st lh sIsI i n) (gI_istore K pc lv' st' lh' i n) := by
  unfold sI_store
  rcases gF2.cases hst with ⟨rfl, rfl⟩ | ⟨w, r, w', r', rfl, rfl, h2, hr⟩
  · exact sSim.none
  · skip
    dsimp only
    cases ht : sIsI w with
    | false => exact sSim.none
    | true =>
      obtain ⟨x, rfl, -⟩ := sInt hcs ht h2
      first | exact hK _ _ _ _ _ _ _ _ hcs (sSt1_ok hlv h2) hr hlh | (simp only [fNth_eq, fSet_eq, fSnoc_eq, fLen_eq, fNat_eq, fV_eq, fFilt_eq, cond_true]; exact hK _ _ _ _ _ _ _ _ hcs (sSt1_ok hlv h2) hr hlh)
theorem ss_astore (hK : ∀ (cs : sI) (pc : Nat) (lv : sL) (lv' : gL) (st : List sV) (st' : List Value) (lh : sH) (lh' : gH), sOK ρ cs → sRL ρ lv lv' → sRS ρ st st' → sRH ρ lh lh' → sSim ρ (sK cs pc lv st lh) (K pc lv' st' lh')) (hcs : sOK ρ cs) (hlv : sRL ρ lv lv') (hst : sRS ρ st st') (hlh : sRH ρ lh lh') {i n : Nat} : sSim ρ (sI_store sK cs pc lv st lh sIsA i n) (gI_astore K pc lv' st' lh' i n) := by
  unfold sI_store
  rcases gF2.cases hst with ⟨rfl, rfl⟩ | ⟨w, r, w', r', rfl, rfl, h2, hr⟩
  · exact sSim.none
  · skip
    dsimp only
    cases ht : sIsA w with
    | false => exact sSim.none
    | true =>
      rcases sRefA ht h2 with rfl | ⟨x, rfl⟩
      · first | exact hK _ _ _ _ _ _ _ _ hcs (sSt1_ok hlv h2) hr hlh | (simp only [fNth_eq, fSet_eq, fSnoc_eq, fLen_eq, fNat_eq, fV_eq, fFilt_eq, cond_true]; exact hK _ _ _ _ _ _ _ _ hcs (sSt1_ok hlv h2) hr hlh)
      · first | exact hK _ _ _ _ _ _ _ _ hcs (sSt1_ok hlv h2) hr hlh | (simp only [fNth_eq, fSet_eq, fSnoc_eq, fLen_eq, fNat_eq, fV_eq, fFilt_eq, cond_true]; exact hK _ _ _ _ _ _ _ _ hcs (sSt1_ok hlv h2) hr hlh)
theorem ss_lstore (hK : ∀ (cs : sI) (pc : Nat) (lv : sL) (lv' : gL) (st : List sV) (st' : List Value) (lh : sH) (lh' : gH), sOK ρ cs → sRL ρ lv lv' → sRS ρ st st' → sRH ρ lh lh' → sSim ρ (sK cs pc lv st lh) (K pc lv' st' lh')) (hcs : sOK ρ cs) (hlv : sRL ρ lv lv') (hst : sRS ρ st st') (hlh : sRH ρ lh lh') {i n : Nat} : sSim ρ (sI_lstore sK cs pc lv st lh i n) (gI_lstore K pc lv' st' lh' i n) := by
  unfold sI_lstore
  rcases gF2.cases hst with ⟨rfl, rfl⟩ | ⟨w, r, w', r', rfl, rfl, h2, hr⟩
  · exact sSim.none
  · skip
    dsimp only
    cases ht : sIsL w with
    | false => exact sSim.none
    | true =>
      obtain ⟨x, rfl, -⟩ := sLong ht h2
      first | exact hK _ _ _ _ _ _ _ _ hcs (sSt2_ok hlv h2) hr hlh | (simp only [fNth_eq, fSet_eq, fSnoc_eq, fLen_eq, fNat_eq, fV_eq, fFilt_eq, cond_true]; exact hK _ _ _ _ _ _ _ _ hcs (sSt2_ok hlv h2) hr hlh)
theorem ss_iinc (hK : ∀ (cs : sI) (pc : Nat) (lv : sL) (lv' : gL) (st : List sV) (st' : List Value) (lh : sH) (lh' : gH), sOK ρ cs → sRL ρ lv lv' → sRS ρ st st' → sRH ρ lh lh' → sSim ρ (sK cs pc lv st lh) (K pc lv' st' lh')) (hcs : sOK ρ cs) (hlv : sRL ρ lv lv') (hst : sRS ρ st st') (hlh : sRH ρ lh lh') {i : Nat} {n : Int} : sSim ρ (sI_iinc sK cs pc lv st lh i n) (gI_iinc K pc lv' st' lh' i n) := by
  unfold sI_iinc
  cases hv : sLk i lv with
  | none => exact sSim.none
  | some w =>
    dsimp only
    cases ht : sIsI w with
    | false => exact sSim.none
    | true =>
      obtain ⟨w', h1, h2⟩ := gLk_ok hlv hv
      obtain ⟨x, rfl, h3, h4, -⟩ := sInt hcs ht h2
      unfold gI_iinc
      rw [h1]
      first | exact hK _ _ _ _ _ _ _ _ hcs (sSt1_ok hlv (sUn_ok (f := fun x => x + Int32.ofInt n) ⟨h3, h4⟩)) hst hlh | (simp only [fNth_eq, fSet_eq, fSnoc_eq, fLen_eq, fNat_eq, fV_eq, fFilt_eq, cond_true]; exact hK _ _ _ _ _ _ _ _ hcs (sSt1_ok hlv (sUn_ok (f := fun x => x + Int32.ofInt n) ⟨h3, h4⟩)) hst hlh)
theorem ss_int (hK : ∀ (cs : sI) (pc : Nat) (lv : sL) (lv' : gL) (st : List sV) (st' : List Value) (lh : sH) (lh' : gH), sOK ρ cs → sRL ρ lv lv' → sRS ρ st st' → sRH ρ lh lh' → sSim ρ (sK cs pc lv st lh) (K pc lv' st' lh')) (hcs : sOK ρ cs) (hlv : sRL ρ lv lv') (hst : sRS ρ st st') (hlh : sRH ρ lh lh') {x : Int32} {n : Nat} : sSim ρ (sI_int sK cs pc lv st lh x n) (gI_int K pc lv' st' lh' x n) := by
  unfold sI_int gI_int
  rw [fV_eq]
  first | exact hK _ _ _ _ _ _ _ _ hcs hlv (And.intro sK0_ok hst) hlh | (simp only [fNth_eq, fSet_eq, fSnoc_eq, fLen_eq, fNat_eq, fV_eq, fFilt_eq, cond_true]; exact hK _ _ _ _ _ _ _ _ hcs hlv (And.intro sK0_ok hst) hlh)
theorem ss_long (hK : ∀ (cs : sI) (pc : Nat) (lv : sL) (lv' : gL) (st : List sV) (st' : List Value) (lh : sH) (lh' : gH), sOK ρ cs → sRL ρ lv lv' → sRS ρ st st' → sRH ρ lh lh' → sSim ρ (sK cs pc lv st lh) (K pc lv' st' lh')) (hcs : sOK ρ cs) (hlv : sRL ρ lv lv') (hst : sRS ρ st st') (hlh : sRH ρ lh lh') {x : Int64} {n : Nat} : sSim ρ (sI_long sK cs pc lv st lh x n) (gI_long K pc lv' st' lh' x n) := by
  unfold sI_long gI_long
  rw [fV_eq]
  first | exact hK _ _ _ _ _ _ _ _ hcs hlv (And.intro ⟨x, rfl, Int.le_refl _, Int.le_refl _⟩ hst) hlh | (simp only [fNth_eq, fSet_eq, fSnoc_eq, fLen_eq, fNat_eq, fV_eq, fFilt_eq, cond_true]; exact hK _ _ _ _ _ _ _ _ hcs hlv (And.intro ⟨x, rfl, Int.le_refl _, Int.le_refl _⟩ hst) hlh)
theorem ss_bin (hK : ∀ (cs : sI) (pc : Nat) (lv : sL) (lv' : gL) (st : List sV) (st' : List Value) (lh : sH) (lh' : gH), sOK ρ cs → sRL ρ lv lv' → sRS ρ st st' → sRH ρ lh lh' → sSim ρ (sK cs pc lv st lh) (K pc lv' st' lh')) (hcs : sOK ρ cs) (hlv : sRL ρ lv lv') (hst : sRS ρ st st') (hlh : sRH ρ lh lh') {f : Int32 → Int32 → Int32} {g : Int × Int → Int × Int → Int × Int} (hg : ∀ (X Y : Int × Int) (x y : Int32), (X.1 ≤ x.toInt ∧ x.toInt ≤ X.2) → (Y.1 ≤ y.toInt ∧ y.toInt ≤ Y.2) → (g X Y).1 ≤ (f x y).toInt ∧ (f x y).toInt ≤ (g X Y).2) : sSim ρ (sI_bin sK cs pc lv st lh f g) (gI_bin K pc lv' st' lh' f) := by
  unfold sI_bin
  rcases gF2.cases hst with ⟨rfl, rfl⟩ | ⟨y, r0, y', r0', rfl, rfl, h2, hr0⟩
  · exact sSim.none
  rcases gF2.cases hr0 with ⟨rfl, rfl⟩ | ⟨x, r, x', r', rfl, rfl, h3, hr⟩
  · exact sSim.none
  ·   dsimp only
      cases ht : (sIsI y && sIsI x) with
      | false => exact sSim.none
      | true =>
        rw [Bool.and_eq_true] at ht
        obtain ⟨y1, rfl, g1, g2, -⟩ := sInt hcs ht.1 h2
        obtain ⟨x1, rfl, g3, g4, -⟩ := sInt hcs ht.2 h3
        first | exact hK _ _ _ _ _ _ _ _ hcs hlv (And.intro (sBin_ok ⟨g3, g4⟩ ⟨g1, g2⟩ (hg _ _ _ _ ⟨g3, g4⟩ ⟨g1, g2⟩)) hr) hlh | (simp only [fNth_eq, fSet_eq, fSnoc_eq, fLen_eq, fNat_eq, fV_eq, fFilt_eq, cond_true]; exact hK _ _ _ _ _ _ _ _ hcs hlv (And.intro (sBin_ok ⟨g3, g4⟩ ⟨g1, g2⟩ (hg _ _ _ _ ⟨g3, g4⟩ ⟨g1, g2⟩)) hr) hlh)
theorem ss_lbin (hK : ∀ (cs : sI) (pc : Nat) (lv : sL) (lv' : gL) (st : List sV) (st' : List Value) (lh : sH) (lh' : gH), sOK ρ cs → sRL ρ lv lv' → sRS ρ st st' → sRH ρ lh lh' → sSim ρ (sK cs pc lv st lh) (K pc lv' st' lh')) (hcs : sOK ρ cs) (hlv : sRL ρ lv lv') (hst : sRS ρ st st') (hlh : sRH ρ lh lh') {f : Int64 → Int64 → Int64} : sSim ρ (sI_lbin sK cs pc lv st lh f) (gI_lbin K pc lv' st' lh' f) := by
  unfold sI_lbin
  rcases gF2.cases hst with ⟨rfl, rfl⟩ | ⟨y, r0, y', r0', rfl, rfl, h2, hr0⟩
  · exact sSim.none
  rcases gF2.cases hr0 with ⟨rfl, rfl⟩ | ⟨x, r, x', r', rfl, rfl, h3, hr⟩
  · exact sSim.none
  ·   dsimp only
      cases ht : (sIsL y && sIsL x) with
      | false => exact sSim.none
      | true =>
        rw [Bool.and_eq_true] at ht
        obtain ⟨y1, rfl, g1, g2⟩ := sLong ht.1 h2
        obtain ⟨x1, rfl, g3, g4⟩ := sLong ht.2 h3
        first | exact hK _ _ _ _ _ _ _ _ hcs hlv (And.intro (sLbin_ok ⟨g3, g4⟩ ⟨g1, g2⟩) hr) hlh | (simp only [fNth_eq, fSet_eq, fSnoc_eq, fLen_eq, fNat_eq, fV_eq, fFilt_eq, cond_true]; exact hK _ _ _ _ _ _ _ _ hcs hlv (And.intro (sLbin_ok ⟨g3, g4⟩ ⟨g1, g2⟩) hr) hlh)
theorem ss_div (hK : ∀ (cs : sI) (pc : Nat) (lv : sL) (lv' : gL) (st : List sV) (st' : List Value) (lh : sH) (lh' : gH), sOK ρ cs → sRL ρ lv lv' → sRS ρ st st' → sRH ρ lh lh' → sSim ρ (sK cs pc lv st lh) (K pc lv' st' lh')) (hcs : sOK ρ cs) (hlv : sRL ρ lv lv') (hst : sRS ρ st st') (hlh : sRH ρ lh lh') {f : Int32 → Int32 → Int32} : sSim ρ (sI_div sK cs pc lv st lh f) (gI_div K pc lv' st' lh' f) := by
  unfold sI_div
  rcases gF2.cases hst with ⟨rfl, rfl⟩ | ⟨y, r0, y', r0', rfl, rfl, h2, hr0⟩
  · exact sSim.none
  rcases gF2.cases hr0 with ⟨rfl, rfl⟩ | ⟨x, r, x', r', rfl, rfl, h3, hr⟩
  · exact sSim.none
  ·   dsimp only
      cases ht : ((sIsI y && sIsI x) && (decide (0 < (sIv cs y).1) || decide ((sIv cs y).2 < 0))) with
      | false => exact sSim.none
      | true =>
        rw [Bool.and_eq_true] at ht
        rw [Bool.and_eq_true, Bool.or_eq_true, decide_eq_true_eq, decide_eq_true_eq] at ht
        obtain ⟨y1, rfl, g1, g2, -⟩ := sInt hcs ht.1.1 h2
        obtain ⟨x1, rfl, g3, g4, -⟩ := sInt hcs ht.1.2 h3
        have hy : ¬ y1 = 0 := fun z => by
          rw [z, show (0 : Int32).toInt = 0 from rfl] at g1 g2
          omega
        unfold gI_div
        dsimp only
        rw [decide_eq_false hy]
        first | exact hK _ _ _ _ _ _ _ _ hcs hlv (And.intro (sBin_ok ⟨g3, g4⟩ ⟨g1, g2⟩ (sAny_ok f _ _ _ _)) hr) hlh | (simp only [fNth_eq, fSet_eq, fSnoc_eq, fLen_eq, fNat_eq, fV_eq, fFilt_eq, cond_true]; exact hK _ _ _ _ _ _ _ _ hcs hlv (And.intro (sBin_ok ⟨g3, g4⟩ ⟨g1, g2⟩ (sAny_ok f _ _ _ _)) hr) hlh)
theorem ss_ldiv (hK : ∀ (cs : sI) (pc : Nat) (lv : sL) (lv' : gL) (st : List sV) (st' : List Value) (lh : sH) (lh' : gH), sOK ρ cs → sRL ρ lv lv' → sRS ρ st st' → sRH ρ lh lh' → sSim ρ (sK cs pc lv st lh) (K pc lv' st' lh')) (hcs : sOK ρ cs) (hlv : sRL ρ lv lv') (hst : sRS ρ st st') (hlh : sRH ρ lh lh')  : sSim ρ (sI_ldiv sK cs pc lv st lh) (gI_ldiv K pc lv' st' lh') := by
  unfold sI_ldiv
  rcases gF2.cases hst with ⟨rfl, rfl⟩ | ⟨y, r0, y', r0', rfl, rfl, h2, hr0⟩
  · exact sSim.none
  rcases gF2.cases hr0 with ⟨rfl, rfl⟩ | ⟨x, r, x', r', rfl, rfl, h3, hr⟩
  · exact sSim.none
  ·   dsimp only
      cases ht : ((sIsL y && sIsL x) && (decide (0 < y.2.1) || decide (y.2.2 < 0))) with
      | false => exact sSim.none
      | true =>
        rw [Bool.and_eq_true] at ht
        rw [Bool.and_eq_true, Bool.or_eq_true, decide_eq_true_eq, decide_eq_true_eq] at ht
        obtain ⟨y1, rfl, g1, g2⟩ := sLong ht.1.1 h2
        obtain ⟨x1, rfl, g3, g4⟩ := sLong ht.1.2 h3
        have hy : ¬ y1 = 0 := fun z => by
          rw [z, show (0 : Int64).toInt = 0 from rfl] at g1 g2
          omega
        unfold gI_ldiv
        dsimp only
        rw [decide_eq_false hy]
        first | exact hK _ _ _ _ _ _ _ _ hcs hlv (And.intro (sLbin_ok (f := fun x y => x / y) ⟨g3, g4⟩ ⟨g1, g2⟩) hr) hlh | (simp only [fNth_eq, fSet_eq, fSnoc_eq, fLen_eq, fNat_eq, fV_eq, fFilt_eq, cond_true]; exact hK _ _ _ _ _ _ _ _ hcs hlv (And.intro (sLbin_ok (f := fun x y => x / y) ⟨g3, g4⟩ ⟨g1, g2⟩) hr) hlh)
theorem ss_lcmp (hK : ∀ (cs : sI) (pc : Nat) (lv : sL) (lv' : gL) (st : List sV) (st' : List Value) (lh : sH) (lh' : gH), sOK ρ cs → sRL ρ lv lv' → sRS ρ st st' → sRH ρ lh lh' → sSim ρ (sK cs pc lv st lh) (K pc lv' st' lh')) (hcs : sOK ρ cs) (hlv : sRL ρ lv lv') (hst : sRS ρ st st') (hlh : sRH ρ lh lh')  : sSim ρ (sI_lcmp sK cs pc lv st lh) (gI_lcmp K pc lv' st' lh') := by
  unfold sI_lcmp
  rcases gF2.cases hst with ⟨rfl, rfl⟩ | ⟨y, r0, y', r0', rfl, rfl, h2, hr0⟩
  · exact sSim.none
  rcases gF2.cases hr0 with ⟨rfl, rfl⟩ | ⟨x, r, x', r', rfl, rfl, h3, hr⟩
  · exact sSim.none
  ·   dsimp only
      cases ht : (sIsL y && sIsL x) with
      | false => exact sSim.none
      | true =>
        rw [Bool.and_eq_true] at ht
        obtain ⟨y1, rfl, g1, g2⟩ := sLong ht.1 h2
        obtain ⟨x1, rfl, g3, g4⟩ := sLong ht.2 h3
        (try simp only [fNth_eq, fSet_eq, fSnoc_eq, fLen_eq, fNat_eq, fV_eq, fFilt_eq, cond_true])
        refine hK _ _ _ _ _ _ _ _ hcs hlv (And.intro ?_ hr) hlh
        cases h9 : (sOne x.2 && sOne y.2) with
        | true =>
          rw [Bool.and_eq_true] at h9
          show sRel ρ (sK0 _) _
          rw [sOneL_ok h9.1 g3 g4, sOneL_ok h9.2 g1 g2]
          exact sK0_ok
        | false => exact ⟨_, rfl, sFull_ok _⟩

theorem ss_un (hK : ∀ (cs : sI) (pc : Nat) (lv : sL) (lv' : gL) (st : List sV) (st' : List Value) (lh : sH) (lh' : gH), sOK ρ cs → sRL ρ lv lv' → sRS ρ st st' → sRH ρ lh lh' → sSim ρ (sK cs pc lv st lh) (K pc lv' st' lh')) (hcs : sOK ρ cs) (hlv : sRL ρ lv lv') (hst : sRS ρ st st') (hlh : sRH ρ lh lh') {f : Int32 → Int32} : sSim ρ (sI_un sK cs pc lv st lh f) (gI_un K pc lv' st' lh' f) := by
  unfold sI_un
  rcases gF2.cases hst with ⟨rfl, rfl⟩ | ⟨x, r, x', r', rfl, rfl, h2, hr⟩
  · exact sSim.none
  · skip
    dsimp only
    cases ht : sIsI x with
    | false => exact sSim.none
    | true =>
      obtain ⟨x1, rfl, g3, g4, -⟩ := sInt hcs ht h2
      first | exact hK _ _ _ _ _ _ _ _ hcs hlv (And.intro (sUn_ok ⟨g3, g4⟩) hr) hlh | (simp only [fNth_eq, fSet_eq, fSnoc_eq, fLen_eq, fNat_eq, fV_eq, fFilt_eq, cond_true]; exact hK _ _ _ _ _ _ _ _ hcs hlv (And.intro (sUn_ok ⟨g3, g4⟩) hr) hlh)
theorem ss_i2l (hK : ∀ (cs : sI) (pc : Nat) (lv : sL) (lv' : gL) (st : List sV) (st' : List Value) (lh : sH) (lh' : gH), sOK ρ cs → sRL ρ lv lv' → sRS ρ st st' → sRH ρ lh lh' → sSim ρ (sK cs pc lv st lh) (K pc lv' st' lh')) (hcs : sOK ρ cs) (hlv : sRL ρ lv lv') (hst : sRS ρ st st') (hlh : sRH ρ lh lh')  : sSim ρ (sI_i2l sK cs pc lv st lh) (gI_i2l K pc lv' st' lh') := by
  unfold sI_i2l
  rcases gF2.cases hst with ⟨rfl, rfl⟩ | ⟨x, r, x', r', rfl, rfl, h2, hr⟩
  · exact sSim.none
  · skip
    dsimp only
    cases ht : sIsI x with
    | false => exact sSim.none
    | true =>
      obtain ⟨x1, rfl, g3, g4, -⟩ := sInt hcs ht h2
      first | exact hK _ _ _ _ _ _ _ _ hcs hlv (And.intro ⟨_, rfl, by rw [Int32.toInt_toInt64]; exact g3, by rw [Int32.toInt_toInt64]; exact g4⟩ hr) hlh | (simp only [fNth_eq, fSet_eq, fSnoc_eq, fLen_eq, fNat_eq, fV_eq, fFilt_eq, cond_true]; exact hK _ _ _ _ _ _ _ _ hcs hlv (And.intro ⟨_, rfl, by rw [Int32.toInt_toInt64]; exact g3, by rw [Int32.toInt_toInt64]; exact g4⟩ hr) hlh)
theorem ss_l2i (hK : ∀ (cs : sI) (pc : Nat) (lv : sL) (lv' : gL) (st : List sV) (st' : List Value) (lh : sH) (lh' : gH), sOK ρ cs → sRL ρ lv lv' → sRS ρ st st' → sRH ρ lh lh' → sSim ρ (sK cs pc lv st lh) (K pc lv' st' lh')) (hcs : sOK ρ cs) (hlv : sRL ρ lv lv') (hst : sRS ρ st st') (hlh : sRH ρ lh lh')  : sSim ρ (sI_l2i sK cs pc lv st lh) (gI_l2i K pc lv' st' lh') := by
  unfold sI_l2i
  rcases gF2.cases hst with ⟨rfl, rfl⟩ | ⟨x, r, x', r', rfl, rfl, h2, hr⟩
  · exact sSim.none
  · skip
    dsimp only
    cases ht : sIsL x with
    | false => exact sSim.none
    | true =>
      obtain ⟨x1, rfl, g3, g4⟩ := sLong ht h2
      (try simp only [fNth_eq, fSet_eq, fSnoc_eq, fLen_eq, fNat_eq, fV_eq, fFilt_eq, cond_true])
      refine hK _ _ _ _ _ _ _ _ hcs hlv (And.intro ?_ hr) hlh
      cases h9 : sOne x.2 with
      | true =>
        show sRel ρ (sK0 _) _
        rw [sOneL_ok h9 g3 g4]
        exact sK0_ok
      | false => exact ⟨_, rfl, sFull_ok _⟩

theorem ss_dup (hK : ∀ (cs : sI) (pc : Nat) (lv : sL) (lv' : gL) (st : List sV) (st' : List Value) (lh : sH) (lh' : gH), sOK ρ cs → sRL ρ lv lv' → sRS ρ st st' → sRH ρ lh lh' → sSim ρ (sK cs pc lv st lh) (K pc lv' st' lh')) (hcs : sOK ρ cs) (hlv : sRL ρ lv lv') (hst : sRS ρ st st') (hlh : sRH ρ lh lh')  : sSim ρ (sI_dup sK cs pc lv st lh) (gI_dup K pc lv' st' lh') := by
  unfold sI_dup
  rcases gF2.cases hst with ⟨rfl, rfl⟩ | ⟨x, r, x', r', rfl, rfl, h2, hr⟩
  · exact sSim.none
  · skip
    unfold gI_dup
    dsimp only
    rw [sCat_ok h2]
    cases ht : Nat.beq (sCat x) 1 with
    | false => exact sSim.none
    | true => first | exact hK _ _ _ _ _ _ _ _ hcs hlv (And.intro h2 (And.intro h2 hr)) hlh | (simp only [fNth_eq, fSet_eq, fSnoc_eq, fLen_eq, fNat_eq, fV_eq, fFilt_eq, cond_true]; exact hK _ _ _ _ _ _ _ _ hcs hlv (And.intro h2 (And.intro h2 hr)) hlh)
theorem ss_pop (hK : ∀ (cs : sI) (pc : Nat) (lv : sL) (lv' : gL) (st : List sV) (st' : List Value) (lh : sH) (lh' : gH), sOK ρ cs → sRL ρ lv lv' → sRS ρ st st' → sRH ρ lh lh' → sSim ρ (sK cs pc lv st lh) (K pc lv' st' lh')) (hcs : sOK ρ cs) (hlv : sRL ρ lv lv') (hst : sRS ρ st st') (hlh : sRH ρ lh lh')  : sSim ρ (sI_pop sK cs pc lv st lh) (gI_pop K pc lv' st' lh') := by
  unfold sI_pop
  rcases gF2.cases hst with ⟨rfl, rfl⟩ | ⟨x, r, x', r', rfl, rfl, h2, hr⟩
  · exact sSim.none
  · skip
    unfold gI_pop
    dsimp only
    rw [sCat_ok h2]
    cases ht : Nat.beq (sCat x) 1 with
    | false => exact sSim.none
    | true => first | exact hK _ _ _ _ _ _ _ _ hcs hlv hr hlh | (simp only [fNth_eq, fSet_eq, fSnoc_eq, fLen_eq, fNat_eq, fV_eq, fFilt_eq, cond_true]; exact hK _ _ _ _ _ _ _ _ hcs hlv hr hlh)
theorem ss_dup2 (hK : ∀ (cs : sI) (pc : Nat) (lv : sL) (lv' : gL) (st : List sV) (st' : List Value) (lh : sH) (lh' : gH), sOK ρ cs → sRL ρ lv lv' → sRS ρ st st' → sRH ρ lh lh' → sSim ρ (sK cs pc lv st lh) (K pc lv' st' lh')) (hcs : sOK ρ cs) (hlv : sRL ρ lv lv') (hst : sRS ρ st st') (hlh : sRH ρ lh lh')  : sSim ρ (sI_dup2 sK cs pc lv st lh) (gI_dup2 K pc lv' st' lh') := by
  unfold sI_dup2
  rcases gF2.cases hst with ⟨rfl, rfl⟩ | ⟨x, r, x', r', rfl, rfl, h2, hr⟩
  · exact sSim.none
  · skip
    unfold gI_dup2
    dsimp only
    rw [sCat_ok h2]
    cases ht : Nat.beq (sCat x) 2 with
    | true => first | exact hK _ _ _ _ _ _ _ _ hcs hlv (And.intro h2 (And.intro h2 hr)) hlh | (simp only [fNth_eq, fSet_eq, fSnoc_eq, fLen_eq, fNat_eq, fV_eq, fFilt_eq, cond_true]; exact hK _ _ _ _ _ _ _ _ hcs hlv (And.intro h2 (And.intro h2 hr)) hlh)
    | false =>
      dsimp only [cond_false]
      rcases gF2.cases hr with ⟨rfl, rfl⟩ | ⟨y, r1, y', r1', rfl, rfl, h3, hr⟩
      · exact sSim.none
      · dsimp only
        rw [sCat_ok h3]
        cases ht : (Nat.beq (sCat x) 1 && Nat.beq (sCat y) 1) with
        | false => exact sSim.none
        | true => first | exact hK _ _ _ _ _ _ _ _ hcs hlv (And.intro h2 (And.intro h3 (And.intro h2 (And.intro h3 hr)))) hlh | (simp only [fNth_eq, fSet_eq, fSnoc_eq, fLen_eq, fNat_eq, fV_eq, fFilt_eq, cond_true]; exact hK _ _ _ _ _ _ _ _ hcs hlv (And.intro h2 (And.intro h3 (And.intro h2 (And.intro h3 hr)))) hlh)
theorem ss_if (hK : ∀ (cs : sI) (pc : Nat) (lv : sL) (lv' : gL) (st : List sV) (st' : List Value) (lh : sH) (lh' : gH), sOK ρ cs → sRL ρ lv lv' → sRS ρ st st' → sRH ρ lh lh' → sSim ρ (sK cs pc lv st lh) (K pc lv' st' lh')) (hcs : sOK ρ cs) (hlv : sRL ρ lv lv') (hst : sRS ρ st st') (hlh : sRH ρ lh lh') {c : Jvm.ClassFile.Cond} : sSim ρ (sI_if sK cs pc a lv st lh c) (gI_if K pc a lv' st' lh' c) := by
  unfold sI_if
  rcases gF2.cases hst with ⟨rfl, rfl⟩ | ⟨x, r, x', r', rfl, rfl, h2, hr⟩
  · exact sSim.none
  · skip
    dsimp only
    cases ht : sIsI x with
    | false => exact sSim.none
    | true =>
      obtain ⟨x1, rfl, g3⟩ := sInt hcs ht h2
      exact sBr_ok hcs g3 (y := 0) ⟨Int.le_refl _, Int.le_refl _, fun z => by cases z⟩ (fun _ cs hcs => hK _ _ _ _ _ _ _ _ hcs hlv hr hlh) (fun _ cs hcs => hK _ _ _ _ _ _ _ _ hcs hlv hr hlh)
theorem ss_icmp (hK : ∀ (cs : sI) (pc : Nat) (lv : sL) (lv' : gL) (st : List sV) (st' : List Value) (lh : sH) (lh' : gH), sOK ρ cs → sRL ρ lv lv' → sRS ρ st st' → sRH ρ lh lh' → sSim ρ (sK cs pc lv st lh) (K pc lv' st' lh')) (hcs : sOK ρ cs) (hlv : sRL ρ lv lv') (hst : sRS ρ st st') (hlh : sRH ρ lh lh') {c : Jvm.ClassFile.Cond} : sSim ρ (sI_icmp sK cs pc a lv st lh c) (gI_icmp K pc a lv' st' lh' c) := by
  unfold sI_icmp
  rcases gF2.cases hst with ⟨rfl, rfl⟩ | ⟨y, r0, y', r0', rfl, rfl, h2, hr0⟩
  · exact sSim.none
  rcases gF2.cases hr0 with ⟨rfl, rfl⟩ | ⟨x, r, x', r', rfl, rfl, h3, hr⟩
  · exact sSim.none
  ·   dsimp only
      cases ht : (sIsI y && sIsI x) with
      | false => exact sSim.none
      | true =>
        rw [Bool.and_eq_true] at ht
        obtain ⟨y1, rfl, g1⟩ := sInt hcs ht.1 h2
        obtain ⟨x1, rfl, g3⟩ := sInt hcs ht.2 h3
        exact sBr_ok hcs g3 g1 (fun _ cs hcs => hK _ _ _ _ _ _ _ _ hcs hlv hr hlh) (fun _ cs hcs => hK _ _ _ _ _ _ _ _ hcs hlv hr hlh)
theorem ss_ifnull (hK : ∀ (cs : sI) (pc : Nat) (lv : sL) (lv' : gL) (st : List sV) (st' : List Value) (lh : sH) (lh' : gH), sOK ρ cs → sRL ρ lv lv' → sRS ρ st st' → sRH ρ lh lh' → sSim ρ (sK cs pc lv st lh) (K pc lv' st' lh')) (hcs : sOK ρ cs) (hlv : sRL ρ lv lv') (hst : sRS ρ st st') (hlh : sRH ρ lh lh')  : sSim ρ (sI_null sK cs lv st lh a (pc + 3)) (gI_ifnull K pc a lv' st' lh') := by
  unfold sI_null
  rcases gF2.cases hst with ⟨rfl, rfl⟩ | ⟨x, r, x', r', rfl, rfl, h2, hr⟩
  · exact sSim.none
  · skip
    dsimp only
    cases ht : Nat.beq x.1 2 with
    | true =>
      have e := sRef2 ht h2
      subst e
      first | exact hK _ _ _ _ _ _ _ _ hcs hlv hr hlh | (simp only [fNth_eq, fSet_eq, fSnoc_eq, fLen_eq, fNat_eq, fV_eq, fFilt_eq, cond_true]; exact hK _ _ _ _ _ _ _ _ hcs hlv hr hlh)
    | false =>
      dsimp only [cond_false]
      cases ht3 : Nat.beq x.1 3 with
      | false => exact sSim.none
      | true =>
        have e := sRef3 ht3 h2
        subst e
        first | exact hK _ _ _ _ _ _ _ _ hcs hlv hr hlh | (simp only [fNth_eq, fSet_eq, fSnoc_eq, fLen_eq, fNat_eq, fV_eq, fFilt_eq, cond_true]; exact hK _ _ _ _ _ _ _ _ hcs hlv hr hlh)
theorem ss_ifnonnull (hK : ∀ (cs : sI) (pc : Nat) (lv : sL) (lv' : gL) (st : List sV) (st' : List Value) (lh : sH) (lh' : gH), sOK ρ cs → sRL ρ lv lv' → sRS ρ st st' → sRH ρ lh lh' → sSim ρ (sK cs pc lv st lh) (K pc lv' st' lh')) (hcs : sOK ρ cs) (hlv : sRL ρ lv lv') (hst : sRS ρ st st') (hlh : sRH ρ lh lh')  : sSim ρ (sI_null sK cs lv st lh (pc + 3) a) (gI_ifnonnull K pc a lv' st' lh') := by
  unfold sI_null
  rcases gF2.cases hst with ⟨rfl, rfl⟩ | ⟨x, r, x', r', rfl, rfl, h2, hr⟩
  · exact sSim.none
  · skip
    dsimp only
    cases ht : Nat.beq x.1 2 with
    | true =>
      have e := sRef2 ht h2
      subst e
      first | exact hK _ _ _ _ _ _ _ _ hcs hlv hr hlh | (simp only [fNth_eq, fSet_eq, fSnoc_eq, fLen_eq, fNat_eq, fV_eq, fFilt_eq, cond_true]; exact hK _ _ _ _ _ _ _ _ hcs hlv hr hlh)
    | false =>
      dsimp only [cond_false]
      cases ht3 : Nat.beq x.1 3 with
      | false => exact sSim.none
      | true =>
        have e := sRef3 ht3 h2
        subst e
        first | exact hK _ _ _ _ _ _ _ _ hcs hlv hr hlh | (simp only [fNth_eq, fSet_eq, fSnoc_eq, fLen_eq, fNat_eq, fV_eq, fFilt_eq, cond_true]; exact hK _ _ _ _ _ _ _ _ hcs hlv hr hlh)
theorem sGo_ok {ρ : Nat → Int32} {pc : Nat} {off : Int} {k : Nat → Option (List sLf)} {k' : Nat → Option gO} (h : ∀ t, sSim ρ (k t) (k' t)) : sSim ρ (sGo pc off k) (bif decide (0 ≤ (pc : Int) + off) then k' ((pc : Int) + off).toNat else none) := by
  unfold sGo
  cases decide (0 ≤ (pc : Int) + off) with
  | false => exact sSim.none
  | true => exact h _
theorem ss_table (hK : ∀ (cs : sI) (pc : Nat) (lv : sL) (lv' : gL) (st : List sV) (st' : List Value) (lh : sH) (lh' : gH), sOK ρ cs → sRL ρ lv lv' → sRS ρ st st' → sRH ρ lh lh' → sSim ρ (sK cs pc lv st lh) (K pc lv' st' lh')) (hcs : sOK ρ cs) (hlv : sRL ρ lv lv') (hst : sRS ρ st st') (hlh : sRH ρ lh lh') {dflt lo hi : Int} {offs : Array Int} : sSim ρ (sI_table sK cs pc lv st lh dflt lo hi offs) (gI_table K pc lv' st' lh' dflt lo hi offs) := by
  unfold sI_table
  rcases gF2.cases hst with ⟨rfl, rfl⟩ | ⟨x, r, x', r', rfl, rfl, h2, hr⟩
  · exact sSim.none
  · skip
    dsimp only
    cases ht : (sIsI x && (decide ((Int32.ofInt lo).toInt = lo) && decide ((Int32.ofInt hi).toInt = hi))) with
    | false => exact sSim.none
    | true =>
      rw [Bool.and_eq_true, Bool.and_eq_true, decide_eq_true_eq, decide_eq_true_eq] at ht
      obtain ⟨ht, hlo, hhi⟩ := ht
      dsimp only [cond_true]
      obtain ⟨x1, rfl, g3⟩ := sInt hcs ht h2
      have hg : gI_table K pc lv' (.int x1 :: r') lh' dflt lo hi offs = (bif gCmp .lt x1 (Int32.ofInt lo) then (bif decide (0 ≤ (pc : Int) + dflt) then K ((pc : Int) + dflt).toNat lv' r' lh' else none) else bif gCmp .gt x1 (Int32.ofInt hi) then (bif decide (0 ≤ (pc : Int) + dflt) then K ((pc : Int) + dflt).toNat lv' r' lh' else none) else (match offs[(x1.toInt - lo).toNat]? with
          | some off => bif decide (0 ≤ (pc : Int) + off) then K ((pc : Int) + off).toNat lv' r' lh' else none
          | none => none)) := by
        have e1 : gCmp .lt x1 (Int32.ofInt lo) = decide (x1.toInt < lo) := by
          exact decide_eq_decide.mpr (by rw [Int32.lt_iff_toInt_lt, hlo])
        have e2 : gCmp .gt x1 (Int32.ofInt hi) = decide (hi < x1.toInt) := by
          exact decide_eq_decide.mpr (by rw [Int32.lt_iff_toInt_lt, hhi])
        rw [e1, e2]
        unfold gI_table
        dsimp only
        cases decide (x1.toInt < lo) <;> cases decide (hi < x1.toInt) <;> rfl
      rw [hg]
      have hK0 : ∀ t : Nat, ∀ cs, sOK ρ cs → sSim ρ (sK cs t lv r lh) (K t lv' r' lh') := fun t cs hcs => hK _ _ _ _ _ _ _ _ hcs hlv hr hlh
      have hc0 : ∀ (cs : sI) (n : Int), (Int32.ofInt n).toInt = n → (sIv cs (sK0 n)).1 ≤ (Int32.ofInt n).toInt ∧ (Int32.ofInt n).toInt ≤ (sIv cs (sK0 n)).2 ∧ (Nat.ble 10 (sK0 n).1 = true → ρ ((sK0 n).1 - 10) = Int32.ofInt n) := fun cs n hn => by
        refine ⟨?_, ?_, fun z => by cases z⟩
        · show n ≤ _
          rw [hn]
          exact Int.le_refl _
        · show _ ≤ n
          rw [hn]
          exact Int.le_refl _
      have hx2 : ∀ cs, sOK ρ cs → (sIv cs x).1 ≤ x1.toInt ∧ x1.toInt ≤ (sIv cs x).2 ∧ (Nat.ble 10 x.1 = true → ρ (x.1 - 10) = x1) := fun cs hcs => by
        obtain ⟨x2, e, q⟩ := sInt hcs ht h2
        cases e
        exact q
      refine sBr_ok hcs g3 (hc0 cs lo hlo) (fun _ cs hcs => sGo_ok fun t => hK0 t cs hcs) (fun hq1 cs1 hcs1 => ?_)
      refine sBr_ok hcs1 (hx2 cs1 hcs1) (hc0 cs1 hi hhi) (fun _ cs hcs => sGo_ok fun t => hK0 t cs hcs) (fun hq2 cs2 hcs2 => ?_)
      have hb1 : ¬ x1.toInt < lo := fun z => by
        have h9 : gCmp .lt x1 (Int32.ofInt lo) = true := gCmp_iff.mpr (by show x1.toInt < _; rw [hlo]; exact z)
        rw [h9] at hq1
        cases hq1
      have hb2 : ¬ hi < x1.toInt := fun z => by
        have h9 : gCmp .gt x1 (Int32.ofInt hi) = true := gCmp_iff.mpr (by show _ < x1.toInt; rw [hhi]; exact z)
        rw [h9] at hq2
        cases hq2
      rw [decide_eq_true (show lo ≤ hi by omega)]
      dsimp only [cond_true]
      refine sEach_ok hcs2 (hx2 cs2 hcs2).2.2 (fun cs3 hcs3 => ?_) _ _ (by omega) (by omega)
      have h8 := hx2 cs2 hcs2
      rw [decide_eq_false (show ¬ (sIv cs2 x).2 < x1.toInt by omega), decide_eq_false (show ¬ x1.toInt < (sIv cs2 x).1 by omega)]
      show sSim ρ (match offs[(x1.toInt - lo).toNat]? with
        | some off => _
        | none => none) _
      cases offs[(x1.toInt - lo).toNat]? with
      | none => exact sSim.none
      | some off => exact sGo_ok fun t => hK0 t cs3 hcs3
def gFD : FieldType → Bool
  | .float => true
  | .double => true
  | _ => false
theorem gFD_ok {ty : FieldType} (h : gFD ty = false) : ty ≠ .float ∧ ty ≠ .double := by
  constructor
  · intro e
    rw [e] at h
    cases h
  · intro e
    rw [e] at h
    cases h
theorem gYt_fd (a j : Nat) : gFD (gYt a j) = false := by
  unfold gYt
  split <;> (first | unfold gY0 | unfold gY1 | unfold gY2 | unfold gY3 | unfold gY4 | unfold gY5 | unfold gY6 | unfold gY7 | unfold gY8 | unfold gY9 | unfold gY10 | unfold gY11 | unfold gY12 | unfold gY13) <;> split <;> rfl
theorem gYt_ok (a j : Nat) : gYt a j ≠ .float ∧ gYt a j ≠ .double := gFD_ok (gYt_fd a j)
theorem gTy_ok (a : Nat) : gTy a ≠ .float ∧ gTy a ≠ .double := gFD_ok (by unfold gTy; split <;> rfl)
theorem sObj {ρ : Nat → Int32} {c : sC} {c' : gC} (h : sRC ρ c c') (hc : c.1 < 100) : ∃ f, c' = .inl (c.1, f) ∧ ∀ j, sRel ρ (sGet c j) (f j) := by
  cases c' with
  | inl o => exact ⟨o.2, by rw [← h.2.1], h.2.2⟩
  | inr y => exact absurd h.1 (by omega)
theorem sArr {ρ : Nat → Int32} {c : sC} {c' : gC} (h : sRC ρ c c') (hc : 100 ≤ c.1) : ∃ f, c' = .inr (c.1 - 100, c.2.1, f) ∧ ∀ j, sRel ρ (sGet c j) (f j) := by
  cases c' with
  | inl o => exact absurd h.1 (by omega)
  | inr y => exact ⟨y.2.2, by rw [← h.2.1, ← h.2.2.1], h.2.2.2⟩
theorem sFit_ok {ρ : Nat → Int32} {cs : sI} (hcs : sOK ρ cs) {ty : FieldType} {v : sV} {w : Value} (h : sFit cs ty v = true) (hw : sRel ρ v w) : gFit ty w = true := by
  unfold sFit at h
  split at h
  · obtain ⟨x, rfl, -⟩ := sLong h hw
    exact gFit_l x
  · rcases sRefA h hw with rfl | ⟨i, rfl⟩
    · rfl
    · unfold gFit
      rw [Bool.and_eq_true]
      exact ⟨decide_eq_true rfl, rfl⟩
  · rcases sRefA h hw with rfl | ⟨i, rfl⟩
    · rfl
    · unfold gFit
      rw [Bool.and_eq_true]
      exact ⟨decide_eq_true rfl, rfl⟩
  · rw [Bool.and_eq_true] at h
    obtain ⟨x, rfl, h1, h2, -⟩ := sInt hcs h.1 hw
    have h3 := h.2
    unfold sFitI at h3
    split at h3
    · unfold gFit
      rw [Bool.and_eq_true]
      exact ⟨decide_eq_true rfl, rfl⟩
    · rw [Bool.and_eq_true, decide_eq_true_eq, decide_eq_true_eq] at h3
      rcases (show x.toInt = (0 : Int32).toInt ∨ x.toInt = (1 : Int32).toInt by
        rw [show (0 : Int32).toInt = 0 from rfl, show (1 : Int32).toInt = 1 from rfl]
        omega) with e | e
      · rw [Int32.toInt_inj.mp e]
        decide
      · rw [Int32.toInt_inj.mp e]
        decide
    · cases h3
theorem sFitI_nar {ty : FieldType} {X : Int × Int} {x : Int32} (h : (sFitI ty X || (sOne X && decide (narrow ty (.int (Int32.ofInt X.1)) = .int (Int32.ofInt X.1)))) = true) (h1 : X.1 ≤ x.toInt) (h2 : x.toInt ≤ X.2) : narrow ty (.int x) = .int x := by
  rw [Bool.or_eq_true] at h
  rcases h with h | h
  · unfold sFitI at h
    split at h
    · rfl
    · rw [Bool.and_eq_true, decide_eq_true_eq, decide_eq_true_eq] at h
      rcases (show x.toInt = (0 : Int32).toInt ∨ x.toInt = (1 : Int32).toInt by
        rw [show (0 : Int32).toInt = 0 from rfl, show (1 : Int32).toInt = 1 from rfl]
        omega) with e | e
      · rw [Int32.toInt_inj.mp e]
        decide
      · rw [Int32.toInt_inj.mp e]
        decide
    · cases h
  · rw [Bool.and_eq_true, decide_eq_true_eq] at h
    rw [sOne_ok h.1 h1 h2] at h
    exact h.2
theorem ss_get (hK : ∀ (cs : sI) (pc : Nat) (lv : sL) (lv' : gL) (st : List sV) (st' : List Value) (lh : sH) (lh' : gH), sOK ρ cs → sRL ρ lv lv' → sRS ρ st st' → sRH ρ lh lh' → sSim ρ (sK cs pc lv st lh) (K pc lv' st' lh')) (hcs : sOK ρ cs) (hlv : sRL ρ lv lv') (hst : sRS ρ st st') (hlh : sRH ρ lh lh')  : sSim ρ (sI_get sK cs pc a b lv st lh) (gI_get K pc a b lv' st' lh') := by
  unfold sI_get
  rcases gF2.cases hst with ⟨rfl, rfl⟩ | ⟨x, r, x', r', rfl, rfl, h2, hr⟩
  · exact sSim.none
  dsimp only
  cases ht : Nat.beq x.1 3 with
  | false => exact sSim.none
  | true =>
    have e := sRef3 ht h2
    subst e
    dsimp only [cond_true]
    (try simp only [fNth_eq])
    cases ho : lh[x.2.1.toNat]? with
    | none => exact sSim.none
    | some ob =>
      dsimp only
      cases hq : (Nat.beq ob.1 a && Nat.blt a 100) with
      | false => exact sSim.none
      | true =>
        rw [Bool.and_eq_true] at hq
        have ha : ob.1 = a := Nat.eq_of_beq_eq_true hq.1
        have hl : a < 100 := Nat.blt_eq.mp hq.2
        obtain ⟨c', g1, g2⟩ := sRH_at hlh ho
        obtain ⟨f, rfl, g3⟩ := sObj g2 (by omega)
        unfold gI_get
        dsimp only
        rw [g1]
        dsimp only
        rw [hq.1]
        first | exact hK _ _ _ _ _ _ _ _ hcs hlv ⟨g3 b, hr⟩ hlh | (simp only [fNth_eq, fSet_eq, fSnoc_eq, fLen_eq, fNat_eq, fV_eq, fFilt_eq, cond_true]; exact hK _ _ _ _ _ _ _ _ hcs hlv ⟨g3 b, hr⟩ hlh)
theorem ss_put (hK : ∀ (cs : sI) (pc : Nat) (lv : sL) (lv' : gL) (st : List sV) (st' : List Value) (lh : sH) (lh' : gH), sOK ρ cs → sRL ρ lv lv' → sRS ρ st st' → sRH ρ lh lh' → sSim ρ (sK cs pc lv st lh) (K pc lv' st' lh')) (hcs : sOK ρ cs) (hlv : sRL ρ lv lv') (hst : sRS ρ st st') (hlh : sRH ρ lh lh')  : sSim ρ (sI_put sK cs pc a b lv st lh) (gI_put K pc a b lv' st' lh') := by
  unfold sI_put
  rcases gF2.cases hst with ⟨rfl, rfl⟩ | ⟨w, r0, w', r0', rfl, rfl, h3, hr0⟩
  · exact sSim.none
  rcases gF2.cases hr0 with ⟨rfl, rfl⟩ | ⟨x, r, x', r', rfl, rfl, h2, hr⟩
  · exact sSim.none
  dsimp only
  cases ht : Nat.beq x.1 3 with
  | false => exact sSim.none
  | true =>
    have e := sRef3 ht h2
    subst e
    dsimp only [cond_true]
    (try simp only [fNth_eq])
    cases ho : lh[x.2.1.toNat]? with
    | none => exact sSim.none
    | some ob =>
      dsimp only
      cases hq : ((Nat.beq ob.1 a && Nat.blt a 100) && (sFit cs (gYt a b) w && Nat.ble 7 x.2.1.toNat)) with
      | false => exact sSim.none
      | true =>
        rw [Bool.and_eq_true, Bool.and_eq_true, Bool.and_eq_true] at hq
        have ha : ob.1 = a := Nat.eq_of_beq_eq_true hq.1.1
        have hl : a < 100 := Nat.blt_eq.mp hq.1.2
        obtain ⟨c', g1, g2⟩ := sRH_at hlh ho
        obtain ⟨f, rfl, g3⟩ := sObj g2 (by omega)
        unfold gI_put
        dsimp only
        rw [g1]
        dsimp only
        rw [hq.1.1, sFit_ok hcs hq.2.1 h3, hq.2.2]
        first | exact hK _ _ _ _ _ _ _ _ hcs hlv hr (sRH_set (c := sPut ob b w) (c' := .inl (ob.1, gup f b w')) ⟨by show ob.1 < 100; omega, rfl, sPut_ok g3 h3⟩ hlh) | (simp only [fNth_eq, fSet_eq, fSnoc_eq, fLen_eq, fNat_eq, fV_eq, fFilt_eq, cond_true]; exact hK _ _ _ _ _ _ _ _ hcs hlv hr (sRH_set (c := sPut ob b w) (c' := .inl (ob.1, gup f b w')) ⟨by show ob.1 < 100; omega, rfl, sPut_ok g3 h3⟩ hlh))
theorem ss_gets (hK : ∀ (cs : sI) (pc : Nat) (lv : sL) (lv' : gL) (st : List sV) (st' : List Value) (lh : sH) (lh' : gH), sOK ρ cs → sRL ρ lv lv' → sRS ρ st st' → sRH ρ lh lh' → sSim ρ (sK cs pc lv st lh) (K pc lv' st' lh')) (hcs : sOK ρ cs) (hlv : sRL ρ lv lv') (hst : sRS ρ st st') (hlh : sRH ρ lh lh')  : sSim ρ (sI_gets sK cs pc a lv st lh) (gI_gets K pc a lv' st' lh') := by
  unfold sI_gets gI_gets
  cases Nat.beq a 0 with
  | true => first | exact hK _ _ _ _ _ _ _ _ hcs hlv ⟨sK0_ok (x := 1), hst⟩ hlh | (simp only [fNth_eq, fSet_eq, fSnoc_eq, fLen_eq, fNat_eq, fV_eq, fFilt_eq, cond_true]; exact hK _ _ _ _ _ _ _ _ hcs hlv ⟨sK0_ok (x := 1), hst⟩ hlh)
  | false => first | exact hK _ _ _ _ _ _ _ _ hcs hlv ⟨rfl, hst⟩ hlh | (simp only [fNth_eq, fSet_eq, fSnoc_eq, fLen_eq, fNat_eq, fV_eq, fFilt_eq, cond_true]; exact hK _ _ _ _ _ _ _ _ hcs hlv ⟨rfl, hst⟩ hlh)
theorem ss_new (hK : ∀ (cs : sI) (pc : Nat) (lv : sL) (lv' : gL) (st : List sV) (st' : List Value) (lh : sH) (lh' : gH), sOK ρ cs → sRL ρ lv lv' → sRS ρ st st' → sRH ρ lh lh' → sSim ρ (sK cs pc lv st lh) (K pc lv' st' lh')) (hcs : sOK ρ cs) (hlv : sRL ρ lv lv') (hst : sRS ρ st st') (hlh : sRH ρ lh lh')  : sSim ρ (sI_new sK cs pc a lv st lh) (gI_new K pc a lv' st' lh') := by
  unfold sI_new gI_new
  cases hq : Nat.blt a 100 with
  | false => exact sSim.none
  | true =>
    (try simp only [fNth_eq, fSet_eq, fSnoc_eq, fLen_eq, fNat_eq, fV_eq, fFilt_eq, cond_true])
    refine hK _ _ _ _ _ _ _ _ hcs hlv ⟨by rw [← sRH_len hlh]; rfl, hst⟩ (sRH_push (c := (a, 0, [])) (c' := .inl (a, fun j => defaultValue (gYt a j))) ⟨Nat.blt_eq.mp hq, rfl, fun j => ?_⟩ hlh)
    show sRel ρ (sDf a j) _
    unfold sDf
    rw [hq]
    exact sZ_ok (gYt_ok a j).1 (gYt_ok a j).2
theorem ss_newa (hK : ∀ (cs : sI) (pc : Nat) (lv : sL) (lv' : gL) (st : List sV) (st' : List Value) (lh : sH) (lh' : gH), sOK ρ cs → sRL ρ lv lv' → sRS ρ st st' → sRH ρ lh lh' → sSim ρ (sK cs pc lv st lh) (K pc lv' st' lh')) (hcs : sOK ρ cs) (hlv : sRL ρ lv lv') (hst : sRS ρ st st') (hlh : sRH ρ lh lh') {n : Nat} : sSim ρ (sI_newa sK cs pc a lv st lh n) (gI_newa K pc a lv' st' lh' n) := by
  unfold sI_newa
  rcases gF2.cases hst with ⟨rfl, rfl⟩ | ⟨x, r, x', r', rfl, rfl, h2, hr⟩
  · exact sSim.none
  · skip
    dsimp only
    cases ht : (sIsI x && (sOne (sIv cs x) && (decide (0 ≤ (sIv cs x).1) && decide ((sIv cs x).1 ≤ 65536)))) with
    | false => exact sSim.none
    | true =>
      rw [Bool.and_eq_true, Bool.and_eq_true, Bool.and_eq_true, decide_eq_true_eq, decide_eq_true_eq] at ht
      obtain ⟨hi, h1, h3, h4⟩ := ht
      obtain ⟨x1, rfl, g3, g4, -⟩ := sInt hcs hi h2
      have e : (sIv cs x).1 = (sIv cs x).2 := of_decide_eq_true h1
      have e1 : (sIv cs x).1 = x1.toInt := by omega
      have hz : ¬ x1 < 0 := by rw [Int32.lt_iff_toInt_lt, show (0 : Int32).toInt = 0 from rfl]; omega
      have hc : x1.toNatClampNeg = x1.toInt.toNat := rfl
      unfold gI_newa
      dsimp only
      rw [decide_eq_false hz, show Nat.ble x1.toNatClampNeg 65536 = true from Nat.ble_eq.mpr (by rw [hc]; omega)]
      (try simp only [fNth_eq, fSet_eq, fSnoc_eq, fLen_eq, fNat_eq, fV_eq, fFilt_eq, cond_true])
      refine hK _ _ _ _ _ _ _ _ hcs hlv ⟨by rw [← sRH_len hlh]; rfl, hr⟩ (sRH_push (c := (100 + a, (sIv cs x).1.toNat, [])) (c' := .inr (a, x1.toNatClampNeg, fun _ => defaultValue (gTy a))) ⟨Nat.le_add_right _ _, by show a = 100 + a - 100; omega, by rw [e1]; rfl, fun j => ?_⟩ hlh)
      show sRel ρ (sDf (100 + a) j) _
      unfold sDf
      rw [show Nat.blt (100 + a) 100 = false from by
        cases hq : Nat.blt (100 + a) 100 with
        | false => rfl
        | true => have := Nat.blt_eq.mp hq; omega, Nat.add_sub_cancel_left]
      exact sZ_ok (gTy_ok a).1 (gTy_ok a).2

theorem ss_len (hK : ∀ (cs : sI) (pc : Nat) (lv : sL) (lv' : gL) (st : List sV) (st' : List Value) (lh : sH) (lh' : gH), sOK ρ cs → sRL ρ lv lv' → sRS ρ st st' → sRH ρ lh lh' → sSim ρ (sK cs pc lv st lh) (K pc lv' st' lh')) (hcs : sOK ρ cs) (hlv : sRL ρ lv lv') (hst : sRS ρ st st') (hlh : sRH ρ lh lh')  : sSim ρ (sI_len sK cs pc lv st lh) (gI_len K pc lv' st' lh') := by
  unfold sI_len
  rcases gF2.cases hst with ⟨rfl, rfl⟩ | ⟨x, r, x', r', rfl, rfl, h2, hr⟩
  · exact sSim.none
  dsimp only
  cases ht : Nat.beq x.1 3 with
  | false => exact sSim.none
  | true =>
    have e := sRef3 ht h2
    subst e
    dsimp only [cond_true]
    (try simp only [fNth_eq])
    cases ho : lh[x.2.1.toNat]? with
    | none => exact sSim.none
    | some ob =>
      dsimp only
      cases hq : (Nat.ble 100 ob.1 && Nat.ble ob.2.1 65536) with
      | false => exact sSim.none
      | true =>
        rw [Bool.and_eq_true] at hq
        have hn := Nat.le_of_ble_eq_true hq.2
        obtain ⟨c', g1, g2⟩ := sRH_at hlh ho
        obtain ⟨f, rfl, g3⟩ := sArr g2 (Nat.le_of_ble_eq_true hq.1)
        unfold gI_len
        dsimp only
        rw [g1]
        (try simp only [fNth_eq, fSet_eq, fSnoc_eq, fLen_eq, fNat_eq, fV_eq, fFilt_eq, cond_true])
        refine hK _ _ _ _ _ _ _ _ hcs hlv ⟨?_, hr⟩ hlh
        have e : (Int32.ofNat ob.2.1).toInt = (ob.2.1 : Int) := Int32.toInt_ofNat_of_lt (by omega)
        exact ⟨_, rfl, by show (ob.2.1 : Int) ≤ _; rw [e]; exact Int.le_refl _, by show _ ≤ (ob.2.1 : Int); rw [e]; exact Int.le_refl _⟩
theorem ss_ald (hK : ∀ (cs : sI) (pc : Nat) (lv : sL) (lv' : gL) (st : List sV) (st' : List Value) (lh : sH) (lh' : gH), sOK ρ cs → sRL ρ lv lv' → sRS ρ st st' → sRH ρ lh lh' → sSim ρ (sK cs pc lv st lh) (K pc lv' st' lh')) (hcs : sOK ρ cs) (hlv : sRL ρ lv lv') (hst : sRS ρ st st') (hlh : sRH ρ lh lh') {t : Nat → Bool} : sSim ρ (sI_ald sK cs pc lv st lh t) (gI_ald K pc lv' st' lh' t) := by
  unfold sI_ald
  rcases gF2.cases hst with ⟨rfl, rfl⟩ | ⟨i, r0, i', r0', rfl, rfl, h3, hr0⟩
  · exact sSim.none
  rcases gF2.cases hr0 with ⟨rfl, rfl⟩ | ⟨x, r, x', r', rfl, rfl, h2, hr⟩
  · exact sSim.none
  dsimp only
  cases ht : (Nat.beq x.1 3 && sIsI i) with
  | false => exact sSim.none
  | true =>
    rw [Bool.and_eq_true] at ht
    have e := sRef3 ht.1 h2
    subst e
    obtain ⟨x1, rfl, gx⟩ := sInt hcs ht.2 h3
    dsimp only [cond_true]
    (try simp only [fNth_eq])
    cases ho : lh[x.2.1.toNat]? with
    | none => exact sSim.none
    | some ob =>
      dsimp only
      cases hq : ((Nat.ble 100 ob.1 && t (ob.1 - 100)) && Nat.ble ob.2.1 65536) with
      | false => exact sSim.none
      | true =>
        rw [Bool.and_eq_true, Bool.and_eq_true] at hq
        obtain ⟨c', g1, g2⟩ := sRH_at hlh ho
        obtain ⟨f, rfl, g3⟩ := sArr g2 (Nat.le_of_ble_eq_true hq.1.1)
        unfold gI_ald
        dsimp only [cond_true]
        rw [g1]
        dsimp only
        refine sIdx_ok hcs gx (fun hin hcl cs2 hcs2 => ?_)
        rw [hq.1.2, hin, hcl]
        first | exact hK _ _ _ _ _ _ _ _ hcs2 hlv ⟨g3 _, hr⟩ hlh | (simp only [fNth_eq, fSet_eq, fSnoc_eq, fLen_eq, fNat_eq, fV_eq, fFilt_eq, cond_true]; exact hK _ _ _ _ _ _ _ _ hcs2 hlv ⟨g3 _, hr⟩ hlh)
theorem sNar_ok {ρ : Nat → Int32} {t : Nat} {X : Int × Int} {x : Int32} (ht : t = 2 ∨ t = 3) (h : X.1 ≤ x.toInt ∧ x.toInt ≤ X.2) : sRel ρ (sNar t X) (narrow (gTy t) (.int x)) := by
  rcases ht with rfl | rfl
  · show sRel ρ (bif sOne X then sK0 _ else _) (.int x.toInt8.toInt32)
    cases h1 : sOne X with
    | true =>
      show sRel ρ (sK0 _) _
      rw [sOne_ok h1 h.1 h.2]
      exact sK0_ok
    | false =>
      have e : x.toInt8.toInt32.toInt = x.toInt8.toInt := Int8.toInt_toInt32 _
      have h8 := x.toInt8.le_toInt
      have h9 := x.toInt8.toInt_lt
      exact ⟨x.toInt8.toInt32, rfl, by show (-128 : Int) ≤ x.toInt8.toInt32.toInt; rw [e]; omega, by show x.toInt8.toInt32.toInt ≤ (127 : Int); rw [e]; omega⟩
  · show sRel ρ (bif sOne X then sK0 _ else _) (.int (x &&& 1))
    cases h1 : sOne X with
    | true =>
      show sRel ρ (sK0 _) _
      rw [sOne_ok h1 h.1 h.2]
      exact sK0_ok
    | false =>
      have h9 := sAnd_core (x := x) (y := 1) (by decide)
      exact ⟨_, rfl, h9.1, h9.2⟩
theorem ss_ist (hK : ∀ (cs : sI) (pc : Nat) (lv : sL) (lv' : gL) (st : List sV) (st' : List Value) (lh : sH) (lh' : gH), sOK ρ cs → sRL ρ lv lv' → sRS ρ st st' → sRH ρ lh lh' → sSim ρ (sK cs pc lv st lh) (K pc lv' st' lh')) (hcs : sOK ρ cs) (hlv : sRL ρ lv lv') (hst : sRS ρ st st') (hlh : sRH ρ lh lh') {t : Nat → Bool} {gs : Nat → sV → sV} {gg : Nat → Int32 → Value} (hg : ∀ (k : Nat) (w : sV) (x : Int32), t k = true → sRel ρ w (.int x) → ((sIv cs w).1 ≤ x.toInt ∧ x.toInt ≤ (sIv cs w).2) → sRel ρ (gs k w) (gg k x)) : sSim ρ (sI_ist sK cs pc lv st lh t gs) (gI_ist K pc lv' st' lh' t gg) := by
  unfold sI_ist
  rcases gF2.cases hst with ⟨rfl, rfl⟩ | ⟨w, r1, w', r1', rfl, rfl, h4, hr1⟩
  · exact sSim.none
  rcases gF2.cases hr1 with ⟨rfl, rfl⟩ | ⟨i, r0, i', r0', rfl, rfl, h3, hr0⟩
  · exact sSim.none
  rcases gF2.cases hr0 with ⟨rfl, rfl⟩ | ⟨x, r, x', r', rfl, rfl, h2, hr⟩
  · exact sSim.none
  dsimp only
  cases ht : (Nat.beq x.1 3 && (sIsI i && sIsI w)) with
  | false => exact sSim.none
  | true =>
    rw [Bool.and_eq_true, Bool.and_eq_true] at ht
    have e := sRef3 ht.1 h2
    subst e
    obtain ⟨x1, rfl, gx⟩ := sInt hcs ht.2.1 h3
    obtain ⟨w1, rfl, gw⟩ := sInt hcs ht.2.2 h4
    dsimp only [cond_true]
    (try simp only [fNth_eq])
    cases ho : lh[x.2.1.toNat]? with
    | none => exact sSim.none
    | some ob =>
      dsimp only
      cases hq : ((Nat.ble 100 ob.1 && t (ob.1 - 100)) && (Nat.ble ob.2.1 65536 && Nat.ble 7 x.2.1.toNat)) with
      | false => exact sSim.none
      | true =>
        rw [Bool.and_eq_true, Bool.and_eq_true, Bool.and_eq_true] at hq
        have h100 := Nat.le_of_ble_eq_true hq.1.1
        obtain ⟨c', g1, g2⟩ := sRH_at hlh ho
        obtain ⟨f, rfl, g3⟩ := sArr g2 h100
        unfold gI_ist
        dsimp only [cond_true]
        rw [g1]
        dsimp only
        refine sIdx_ok hcs gx (fun hin hcl cs2 hcs2 => ?_)
        rw [hq.1.2, hin, hq.2.2, hcl]
        first | exact hK _ _ _ _ _ _ _ _ hcs2 hlv hr (sRH_set (c := sPut ob x1.toNatClampNeg (gs (ob.1 - 100) w)) (c' := .inr (ob.1 - 100, ob.2.1, gup f x1.toNatClampNeg (gg (ob.1 - 100) w1))) ⟨h100, rfl, rfl, sPut_ok g3 (hg _ _ _ hq.1.2 h4 ⟨gw.1, gw.2.1⟩)⟩ hlh) | (simp only [fNth_eq, fSet_eq, fSnoc_eq, fLen_eq, fNat_eq, fV_eq, fFilt_eq, cond_true]; exact hK _ _ _ _ _ _ _ _ hcs2 hlv hr (sRH_set (c := sPut ob x1.toNatClampNeg (gs (ob.1 - 100) w)) (c' := .inr (ob.1 - 100, ob.2.1, gup f x1.toNatClampNeg (gg (ob.1 - 100) w1))) ⟨h100, rfl, rfl, sPut_ok g3 (hg _ _ _ hq.1.2 h4 ⟨gw.1, gw.2.1⟩)⟩ hlh))
theorem ss_last (hK : ∀ (cs : sI) (pc : Nat) (lv : sL) (lv' : gL) (st : List sV) (st' : List Value) (lh : sH) (lh' : gH), sOK ρ cs → sRL ρ lv lv' → sRS ρ st st' → sRH ρ lh lh' → sSim ρ (sK cs pc lv st lh) (K pc lv' st' lh')) (hcs : sOK ρ cs) (hlv : sRL ρ lv lv') (hst : sRS ρ st st') (hlh : sRH ρ lh lh')  : sSim ρ (sI_last sK cs pc lv st lh) (gI_last K pc lv' st' lh') := by
  unfold sI_last
  rcases gF2.cases hst with ⟨rfl, rfl⟩ | ⟨w, r1, w', r1', rfl, rfl, h4, hr1⟩
  · exact sSim.none
  rcases gF2.cases hr1 with ⟨rfl, rfl⟩ | ⟨i, r0, i', r0', rfl, rfl, h3, hr0⟩
  · exact sSim.none
  rcases gF2.cases hr0 with ⟨rfl, rfl⟩ | ⟨x, r, x', r', rfl, rfl, h2, hr⟩
  · exact sSim.none
  dsimp only
  cases ht : (Nat.beq x.1 3 && (sIsI i && sIsL w)) with
  | false => exact sSim.none
  | true =>
    rw [Bool.and_eq_true, Bool.and_eq_true] at ht
    have e := sRef3 ht.1 h2
    subst e
    obtain ⟨x1, rfl, gx⟩ := sInt hcs ht.2.1 h3
    obtain ⟨w1, rfl, gw⟩ := sLong ht.2.2 h4
    dsimp only [cond_true]
    (try simp only [fNth_eq])
    cases ho : lh[x.2.1.toNat]? with
    | none => exact sSim.none
    | some ob =>
      dsimp only
      cases hq : ((Nat.ble 100 ob.1 && Nat.beq (ob.1 - 100) 1) && (Nat.ble ob.2.1 65536 && Nat.ble 7 x.2.1.toNat)) with
      | false => exact sSim.none
      | true =>
        rw [Bool.and_eq_true, Bool.and_eq_true, Bool.and_eq_true] at hq
        have h100 := Nat.le_of_ble_eq_true hq.1.1
        obtain ⟨c', g1, g2⟩ := sRH_at hlh ho
        obtain ⟨f, rfl, g3⟩ := sArr g2 h100
        unfold gI_last
        dsimp only [cond_true]
        rw [g1]
        dsimp only
        refine sIdx_ok hcs gx (fun hin hcl cs2 hcs2 => ?_)
        rw [hq.1.2, hin, hq.2.2, hcl]
        first | exact hK _ _ _ _ _ _ _ _ hcs2 hlv hr (sRH_set (c := sPut ob x1.toNatClampNeg (w)) (c' := .inr (ob.1 - 100, ob.2.1, gup f x1.toNatClampNeg (.long w1))) ⟨h100, rfl, rfl, sPut_ok g3 (h4)⟩ hlh) | (simp only [fNth_eq, fSet_eq, fSnoc_eq, fLen_eq, fNat_eq, fV_eq, fFilt_eq, cond_true]; exact hK _ _ _ _ _ _ _ _ hcs2 hlv hr (sRH_set (c := sPut ob x1.toNatClampNeg (w)) (c' := .inr (ob.1 - 100, ob.2.1, gup f x1.toNatClampNeg (.long w1))) ⟨h100, rfl, rfl, sPut_ok g3 (h4)⟩ hlh))
theorem ss_aast (hK : ∀ (cs : sI) (pc : Nat) (lv : sL) (lv' : gL) (st : List sV) (st' : List Value) (lh : sH) (lh' : gH), sOK ρ cs → sRL ρ lv lv' → sRS ρ st st' → sRH ρ lh lh' → sSim ρ (sK cs pc lv st lh) (K pc lv' st' lh')) (hcs : sOK ρ cs) (hlv : sRL ρ lv lv') (hst : sRS ρ st st') (hlh : sRH ρ lh lh')  : sSim ρ (sI_aast sK cs pc lv st lh) (gI_aast K pc lv' st' lh') := by
  unfold sI_aast
  rcases gF2.cases hst with ⟨rfl, rfl⟩ | ⟨w, r1, w', r1', rfl, rfl, h4, hr1⟩
  · exact sSim.none
  rcases gF2.cases hr1 with ⟨rfl, rfl⟩ | ⟨i, r0, i', r0', rfl, rfl, h3, hr0⟩
  · exact sSim.none
  rcases gF2.cases hr0 with ⟨rfl, rfl⟩ | ⟨x, r, x', r', rfl, rfl, h2, hr⟩
  · exact sSim.none
  dsimp only
  cases ht : (Nat.beq x.1 3 && (sIsI i && Nat.beq w.1 3)) with
  | false => exact sSim.none
  | true =>
    rw [Bool.and_eq_true, Bool.and_eq_true] at ht
    have e := sRef3 ht.1 h2
    subst e
    have e := sRef3 ht.2.2 h4
    subst e
    obtain ⟨x1, rfl, gx⟩ := sInt hcs ht.2.1 h3
    dsimp only [cond_true]
    (try simp only [fNth_eq])
    cases ho : lh[x.2.1.toNat]? with
    | none => exact sSim.none
    | some ob =>
      dsimp only
      (try simp only [fNth_eq])
      cases hw : lh[w.2.1.toNat]? with
      | none => exact sSim.none
      | some wb =>
        dsimp only
        cases hq : ((Nat.ble 100 ob.1 && (Nat.beq (gEl (ob.1 - 100)) wb.1 && Nat.blt wb.1 100)) && (Nat.ble ob.2.1 65536 && Nat.ble 7 x.2.1.toNat)) with
        | false => exact sSim.none
        | true =>
          rw [Bool.and_eq_true, Bool.and_eq_true, Bool.and_eq_true, Bool.and_eq_true] at hq
          have h100 := Nat.le_of_ble_eq_true hq.1.1
          obtain ⟨c', g1, g2⟩ := sRH_at hlh ho
          obtain ⟨f, rfl, g3⟩ := sArr g2 h100
          obtain ⟨d', k1, k2⟩ := sRH_at hlh hw
          obtain ⟨fw, rfl, k3⟩ := sObj k2 (Nat.blt_eq.mp hq.1.2.2)
          unfold gI_aast
          dsimp only [cond_true]
          rw [g1, k1]
          dsimp only
          refine sIdx_ok hcs gx (fun hin hcl cs2 hcs2 => ?_)
          rw [hq.1.2.1, hin, hq.2.2, hcl]
          first | exact hK _ _ _ _ _ _ _ _ hcs2 hlv hr (sRH_set (c := sPut ob x1.toNatClampNeg w) (c' := .inr (ob.1 - 100, ob.2.1, gup f x1.toNatClampNeg (.ref w.2.1.toNat))) ⟨h100, rfl, rfl, sPut_ok g3 h4⟩ hlh) | (simp only [fNth_eq, fSet_eq, fSnoc_eq, fLen_eq, fNat_eq, fV_eq, fFilt_eq, cond_true]; exact hK _ _ _ _ _ _ _ _ hcs2 hlv hr (sRH_set (c := sPut ob x1.toNatClampNeg w) (c' := .inr (ob.1 - 100, ob.2.1, gup f x1.toNatClampNeg (.ref w.2.1.toNat))) ⟨h100, rfl, rfl, sPut_ok g3 h4⟩ hlh))
theorem sBack_ok (hK : ∀ (cs : sI) (pc : Nat) (lv : sL) (lv' : gL) (st : List sV) (st' : List Value) (lh : sH) (lh' : gH), sOK ρ cs → sRL ρ lv lv' → sRS ρ st st' → sRH ρ lh lh' → sSim ρ (sK cs pc lv st lh) (K pc lv' st' lh')) (hlv : sRL ρ lv lv') {r : List sV} {r' : List Value} (hr : sRS ρ r r') {n : Nat} {o : gO} : ∀ (l : List sLf), sGood ρ l (some o) → sSim ρ (sBack sK pc lv n r l) (gBack K pc lv' n r' (some o)) := by
  intro l
  induction l with
  | nil => intro h; obtain ⟨f, hf, -⟩ := h; cases hf
  | cons g l ih =>
    intro h
    obtain ⟨f, hf, o2, e, q1, q2, q3, q4⟩ := h
    cases e
    rcases List.mem_cons.mp hf with rfl | hf
    · exact sSim.app (Or.inl (hK _ _ _ _ _ _ _ _ q1 hlv (gF2.app hr q4) q2))
    · exact sSim.app (Or.inr (ih ⟨f, hf, o, rfl, q1, q2, q3, q4⟩))
theorem sCats_ok {r : List sV} {r' : List Value} (h : sRS ρ r r') : sCats r = gCat r' := by
  unfold sCats gCat
  have e : (r.map sCat) = (r'.map fun v => v.category) := by
    induction r generalizing r' with
    | nil => cases r' with
      | nil => rfl
      | cons b m => exact h.elim
    | cons a l ih => cases r' with
      | nil => exact h.elim
      | cons b m => rw [List.map_cons, List.map_cons, ih h.2, sCat_ok h.1]
  rw [e]
theorem ss_virt (hK : ∀ (cs : sI) (pc : Nat) (lv : sL) (lv' : gL) (st : List sV) (st' : List Value) (lh : sH) (lh' : gH), sOK ρ cs → sRL ρ lv lv' → sRS ρ st st' → sRH ρ lh lh' → sSim ρ (sK cs pc lv st lh) (K pc lv' st' lh')) (hcs : sOK ρ cs) (hlv : sRL ρ lv lv') (hst : sRS ρ st st') (hlh : sRH ρ lh lh') (hC : ∀ (cs : sI) (as : List sV) (as' : List Value) (lh : sH) (lh' : gH), sOK ρ cs → sRS ρ as as' → sRH ρ lh lh' → sSim ρ (sCl cs a as lh) (C a as' lh')) : sSim ρ (sI_virt sK sCl cs pc a b v lv st lh) (gI_virt K C pc a b v lv' st' lh') := by
  unfold sI_virt gI_virt
  have hd := gF2.drop b hst
  rcases gF2.cases hd with ⟨e1, e2⟩ | ⟨x, r, x', r', e1, e2, h2, hr⟩
  · rw [e1]; exact sSim.none
  rw [e1, e2]
  dsimp only
  cases ht : Nat.beq x.1 3 with
  | false => exact sSim.none
  | true =>
    have e := sRef3 ht h2
    subst e
    dsimp only [cond_true]
    (try simp only [fNth_eq])
    cases ho : lh[x.2.1.toNat]? with
    | none => exact sSim.none
    | some ob =>
      dsimp only
      cases hq : ((Int.toNat v == ob.1 && Nat.blt ob.1 100) && sCats r) with
      | false => exact sSim.none
      | true =>
        rw [Bool.and_eq_true, Bool.and_eq_true] at hq
        obtain ⟨c', g1, g2⟩ := sRH_at hlh ho
        obtain ⟨f, rfl, g3⟩ := sObj g2 (Nat.blt_eq.mp hq.1.2)
        rw [g1]
        dsimp only
        rw [hq.1.1, ← sCats_ok hr, hq.2]
        dsimp only [cond_true, Bool.and_self]
        cases hl : sCl cs a (x :: (st.take b).reverse) lh with
        | none => exact sSim.none
        | some l =>
          have hg := hC cs _ _ lh lh' hcs (show sRS ρ (x :: (st.take b).reverse) (Value.ref x.2.1.toNat :: (st'.take b).reverse) from And.intro h2 (gF2.rev (gF2.take b hst))) hlh l hl
          obtain ⟨f0, hf0, o, e, rest⟩ := id hg
          rw [e] at hg ⊢
          exact sBack_ok hK hlv hr l hg
theorem ss_stat (hK : ∀ (cs : sI) (pc : Nat) (lv : sL) (lv' : gL) (st : List sV) (st' : List Value) (lh : sH) (lh' : gH), sOK ρ cs → sRL ρ lv lv' → sRS ρ st st' → sRH ρ lh lh' → sSim ρ (sK cs pc lv st lh) (K pc lv' st' lh')) (hcs : sOK ρ cs) (hlv : sRL ρ lv lv') (hst : sRS ρ st st') (hlh : sRH ρ lh lh') (hC : ∀ (cs : sI) (as : List sV) (as' : List Value) (lh : sH) (lh' : gH), sOK ρ cs → sRS ρ as as' → sRH ρ lh lh' → sSim ρ (sCl cs a as lh) (C a as' lh')) : sSim ρ (sI_stat sK sCl cs pc a b lv st lh) (gI_stat K C pc a b lv' st' lh') := by
  unfold sI_stat gI_stat
  have hd := gF2.drop b hst
  rw [← sCats_ok hd, ← gF2.len hst]
  cases hq : (Nat.ble b st.length && sCats (st.drop b)) with
  | false => exact sSim.none
  | true =>
    dsimp only [cond_true]
    cases hl : sCl cs a ((st.take b).reverse) lh with
    | none => exact sSim.none
    | some l =>
      have hg := hC cs _ _ lh lh' hcs (gF2.rev (gF2.take b hst)) hlh l hl
      obtain ⟨f0, hf0, o, e, rest⟩ := id hg
      rw [e] at hg ⊢
      exact sBack_ok hK hlv hd l hg
theorem ss_spec (hK : ∀ (cs : sI) (pc : Nat) (lv : sL) (lv' : gL) (st : List sV) (st' : List Value) (lh : sH) (lh' : gH), sOK ρ cs → sRL ρ lv lv' → sRS ρ st st' → sRH ρ lh lh' → sSim ρ (sK cs pc lv st lh) (K pc lv' st' lh')) (hcs : sOK ρ cs) (hlv : sRL ρ lv lv') (hst : sRS ρ st st') (hlh : sRH ρ lh lh') (hC : ∀ (cs : sI) (as : List sV) (as' : List Value) (lh : sH) (lh' : gH), sOK ρ cs → sRS ρ as as' → sRH ρ lh lh' → sSim ρ (sCl cs a as lh) (C a as' lh')) : sSim ρ (sI_spec sK sCl dp cs pc a b lv st lh) (gI_spec K C dp pc a b lv' st' lh') := by
  unfold sI_spec gI_spec
  cases ha : Nat.beq a 9999 with
  | true =>
    dsimp only [cond_true]
    rcases gF2.cases hst with ⟨rfl, rfl⟩ | ⟨x, r, x', r', rfl, rfl, h2, hr⟩
    · exact sSim.none
    dsimp only
    cases hq : (Nat.beq x.1 3 && (dp && sCats r)) with
    | false => exact sSim.none
    | true =>
      rw [Bool.and_eq_true] at hq
      have e := sRef3 hq.1 h2
      subst e
      dsimp only [cond_true]
      rw [← sCats_ok hr, hq.2]
      first | exact hK _ _ _ _ _ _ _ _ hcs hlv hr hlh | (simp only [fNth_eq, fSet_eq, fSnoc_eq, fLen_eq, fNat_eq, fV_eq, fFilt_eq, cond_true]; exact hK _ _ _ _ _ _ _ _ hcs hlv hr hlh)
  | false =>
    dsimp only [cond_false]
    have hd := gF2.drop b hst
    rcases gF2.cases hd with ⟨e1, e2⟩ | ⟨x, r, x', r', e1, e2, h2, hr⟩
    · rw [e1]; exact sSim.none
    rw [e1, e2]
    dsimp only
    cases hq : (Nat.beq x.1 3 && sCats r) with
    | false => exact sSim.none
    | true =>
      rw [Bool.and_eq_true] at hq
      have e := sRef3 hq.1 h2
      subst e
      dsimp only [cond_true]
      rw [← sCats_ok hr, hq.2]
      dsimp only [cond_true]
      cases hl : sCl cs a (x :: (st.take b).reverse) lh with
      | none => exact sSim.none
      | some l =>
        have hg := hC cs _ _ lh lh' hcs (show sRS ρ (x :: (st.take b).reverse) (Value.ref x.2.1.toNat :: (st'.take b).reverse) from And.intro h2 (gF2.rev (gF2.take b hst))) hlh l hl
        obtain ⟨f0, hf0, o, e, rest⟩ := id hg
        rw [e] at hg ⊢
        exact sBack_ok hK hlv hr l hg
theorem sGood_one {cs : sI} {lh : sH} {lh' : gH} {pc : Nat} {st : List sV} {st' : List Value} (hcs : sOK ρ cs) (hlh : sRH ρ lh lh') (hst : sRS ρ st st') : sSim ρ (some [(cs, lh, pc, st)]) (some (lh', pc, st')) := by
  intro L hL
  cases hL
  exact ⟨_, List.mem_singleton.mpr rfl, _, rfl, hcs, hlh, rfl, hst⟩
theorem ss_iret (hcs : sOK ρ cs) (hlh : sRH ρ lh lh') (hst : sRS ρ st st')  : sSim ρ (sI_iret rt cs pc st lh) (gI_iret rt pc st' lh') := by
  unfold sI_iret
  rcases gF2.cases hst with ⟨rfl, rfl⟩ | ⟨x, r, x', r', rfl, rfl, h2, hr⟩
  · exact sSim.none
  rcases gF2.cases hr with ⟨rfl, rfl⟩ | ⟨y, r1, y', r1', rfl, rfl, h3, hr1⟩
  rotate_left
  · exact sSim.none
  dsimp only
  cases rt with
  | none => exact sSim.none
  | some ty =>
    dsimp only
    cases hq : (sIsI x && (sFitI ty (sIv cs x) || (sOne (sIv cs x) && decide (narrow ty (.int (Int32.ofInt (sIv cs x).1)) = .int (Int32.ofInt (sIv cs x).1))))) with
    | false => exact sSim.none
    | true =>
      rw [Bool.and_eq_true] at hq
      obtain ⟨x1, rfl, g3, g4, -⟩ := sInt hcs hq.1 h2
      unfold gI_iret
      dsimp only
      rw [decide_eq_true (sFitI_nar hq.2 g3 g4)]
      exact sGood_one hcs hlh ⟨h2, trivial⟩
theorem ss_lret (hcs : sOK ρ cs) (hlh : sRH ρ lh lh') (hst : sRS ρ st st')  : sSim ρ (sI_lret rt cs pc st lh) (gI_lret rt pc st' lh') := by
  unfold sI_lret
  rcases gF2.cases hst with ⟨rfl, rfl⟩ | ⟨x, r, x', r', rfl, rfl, h2, hr⟩
  · exact sSim.none
  rcases gF2.cases hr with ⟨rfl, rfl⟩ | ⟨y, r1, y', r1', rfl, rfl, h3, hr1⟩
  rotate_left
  · exact sSim.none
  dsimp only
  split
  · cases hq : sIsL x with
    | false => exact sSim.none
    | true =>
      obtain ⟨x1, rfl, -⟩ := sLong hq h2
      exact sGood_one hcs hlh ⟨h2, trivial⟩
  · exact sSim.none
theorem ss_aret (hcs : sOK ρ cs) (hlh : sRH ρ lh lh') (hst : sRS ρ st st')  : sSim ρ (sI_aret rt cs pc st lh) (gI_aret rt pc st' lh') := by
  unfold sI_aret gI_aret
  split
  all_goals first
    | exact sSim.none
    | (dsimp only
       rcases gF2.cases hst with ⟨rfl, rfl⟩ | ⟨x, r, x', r', rfl, rfl, h2, hr⟩
       · exact sSim.none
       rcases gF2.cases hr with ⟨rfl, rfl⟩ | ⟨y, r1, y', r1', rfl, rfl, h3, hr1⟩
       rotate_left
       · exact sSim.none
       dsimp only
       cases hq : sIsA x with
       | false => exact sSim.none
       | true => rcases sRefA hq h2 with rfl | ⟨i, rfl⟩ <;> exact sGood_one hcs hlh ⟨h2, trivial⟩)
theorem ss_vret (hcs : sOK ρ cs) (hlh : sRH ρ lh lh') (hst : sRS ρ st st')  : sSim ρ (sI_vret rt cs pc st lh) (gI_vret rt pc st' lh') := by
  unfold sI_vret
  rcases gF2.cases hst with ⟨rfl, rfl⟩ | ⟨x, r, x', r', rfl, rfl, h2, hr⟩
  rotate_left
  · exact sSim.none
  unfold gI_vret
  dsimp only
  split
  · exact sGood_one hcs hlh trivial
  · exact sSim.none
end SROWS
end
section
/-! THE SYMBOLIC RUN COVERS THE PURE RUN: the whole. -/
theorem s_args_ok {ρ : Nat → Int32} : ∀ {as : List sV} {as' : List Value} (k : Nat), sRS ρ as as' → sRL ρ (s_args k as) (lv_args k as') := by
  intro as
  induction as with
  | nil => intro as' k h; cases as' with
    | nil => exact trivial
    | cons b m => exact h.elim
  | cons a l ih => intro as' k h; cases as' with
    | nil => exact h.elim
    | cons b m =>
      show (k = k ∧ sRel ρ a b) ∧ sRL ρ (s_args (bif Nat.beq (sCat a) 2 then k + 2 else k + 1) l) (lv_args (if b.category = 2 then k + 2 else k + 1) m)
      rw [sCat_ok h.1]
      cases hq : Nat.beq (sCat a) 2 with
      | true =>
        rw [if_pos (Nat.eq_of_beq_eq_true hq)]
        exact ⟨⟨rfl, h.1⟩, ih _ h.2⟩
      | false =>
        rw [if_neg (Nat.ne_of_beq_eq_false hq)]
        exact ⟨⟨rfl, h.1⟩, ih _ h.2⟩
theorem s_sl_ok {ρ : Nat → Int32} : ∀ {as : List sV} {as' : List Value}, sRS ρ as as' → s_sl as = (lg_sl as').length := by
  intro as
  induction as with
  | nil => intro as' h; cases as' with
    | nil => rfl
    | cons b m => exact h.elim
  | cons a l ih => intro as' h; cases as' with
    | nil => exact h.elim
    | cons b m =>
      have e := ih h.2
      unfold s_sl lg_sl at e ⊢
      rw [List.map_cons, List.sum_cons, List.flatMap_cons, List.length_append, ← e, ← sCat_ok h.1]
      rcases lv_cat b with hc | hc <;> simp [hc]
theorem sCall_ok {ρ : Nat → Int32} {n : Nat} (IH : ∀ (cs : sI) (j d pc : Nat) (lv : sL) (lv' : gL) (st : List sV) (st' : List Value) (lh : sH) (lh' : gH), sOK ρ cs → sRL ρ lv lv' → sRS ρ st st' → sRH ρ lh lh' → sSim ρ (sRun n cs j d pc lv st lh) (gRun n j d pc lv' st' lh')) (d a : Nat) (cs : sI) (as : List sV) (as' : List Value) (lh : sH) (lh' : gH) (hcs : sOK ρ cs) (has : sRS ρ as as') (hlh : sRH ρ lh lh') : sSim ρ (sCall (sRun n) d cs a as lh) (gCall (gRun n) d a as' lh') := by
  cases d with
  | zero => exact sSim.none
  | succ d =>
    show sSim ρ (bif Nat.ble (s_sl as) (gMax a) then _ else _) (bif Nat.ble (lg_sl as').length (gMax a) then _ else _)
    rw [s_sl_ok has]
    cases Nat.ble (lg_sl as').length (gMax a) with
    | false => exact sSim.none
    | true => exact IH _ _ _ _ _ _ _ _ _ _ hcs (s_args_ok 0 has) trivial hlh
set_option maxHeartbeats 4000000 in
theorem sMain {ρ : Nat → Int32} : ∀ (n : Nat) (cs : sI) (j d pc : Nat) (lv : sL) (lv' : gL) (st : List sV) (st' : List Value) (lh : sH) (lh' : gH), sOK ρ cs → sRL ρ lv lv' → sRS ρ st st' → sRH ρ lh lh' → sSim ρ (sRun n cs j d pc lv st lh) (gRun n j d pc lv' st' lh') := by
  intro n
  induction n with
  | zero =>
    intro cs j d pc lv lv' st st' lh lh' _ _ _ _
    exact sSim.none
  | succ n IH =>
  intro cs j d pc lv lv' st st' lh lh' hcs hlv hst hlh
  rw [sRun_succ, gRun_succ]
  unfold sStep gStep
  rw [fNat_eq, sAtt_eq]
  cases gAtt j pc with
  | none => exact sSim.none
  | some e =>
  obtain ⟨pc0, ins, a, b, v, ts⟩ := e
  dsimp only
  have hK : ∀ (cs : sI) (pc : Nat) (lv : sL) (lv' : gL) (st : List sV) (st' : List Value) (lh : sH) (lh' : gH), sOK ρ cs → sRL ρ lv lv' → sRS ρ st st' → sRH ρ lh lh' → sSim ρ ((fun cs => sRun n cs j d) cs pc lv st lh) (gRun n j d pc lv' st' lh') := fun cs pc lv lv' st st' lh lh' q1 q2 q3 q4 => IH cs j d pc lv lv' st st' lh lh' q1 q2 q3 q4
  have hC : ∀ (cs : sI) (as : List sV) (as' : List Value) (lh : sH) (lh' : gH), sOK ρ cs → sRS ρ as as' → sRH ρ lh lh' → sSim ρ (sCall (sRun n) d cs a as lh) (gCall (gRun n) d a as' lh') := fun cs as as' lh lh' q1 q2 q3 => sCall_ok IH d a cs as as' lh lh' q1 q2 q3
  cases ins with
  | iload_n k => exact ss_iload hK hcs hlv hst hlh
  | iload k => exact ss_iload hK hcs hlv hst hlh
  | lload_n k => exact ss_lload hK hcs hlv hst hlh
  | lload k => exact ss_lload hK hcs hlv hst hlh
  | aload_n k => exact ss_aload hK hcs hlv hst hlh
  | aload k => exact ss_aload hK hcs hlv hst hlh
  | istore_n k => exact ss_istore hK hcs hlv hst hlh
  | istore k => exact ss_istore hK hcs hlv hst hlh
  | lstore_n k => exact ss_lstore hK hcs hlv hst hlh
  | lstore k => exact ss_lstore hK hcs hlv hst hlh
  | astore_n k => exact ss_astore hK hcs hlv hst hlh
  | astore k => exact ss_astore hK hcs hlv hst hlh
  | iinc k n => exact ss_iinc hK hcs hlv hst hlh
  | iconst n => exact ss_int hK hcs hlv hst hlh
  | bipush n => exact ss_int hK hcs hlv hst hlh
  | sipush n => exact ss_int hK hcs hlv hst hlh
  | lconst n => exact ss_long hK hcs hlv hst hlh
  | aconst_null => exact hK _ _ _ _ _ _ _ _ hcs hlv (And.intro rfl hst) hlh
  | ldc k =>
    show sSim ρ (bif Nat.beq b 1 then _ else _) (bif Nat.beq b 1 then _ else _)
    cases Nat.beq b 1 with
    | true => exact hK _ _ _ _ _ _ _ _ hcs hlv (And.intro rfl hst) hlh
    | false => exact ss_int hK hcs hlv hst hlh
  | ldc_w k => exact ss_int hK hcs hlv hst hlh
  | ldc2_w k => exact ss_long hK hcs hlv hst hlh
  | iadd => exact ss_bin hK hcs hlv hst hlh (fun X Y x y _ _ => sAny_ok _ X Y x y)
  | isub => exact ss_bin hK hcs hlv hst hlh (fun X Y x y _ _ => sAny_ok _ X Y x y)
  | imul => exact ss_bin hK hcs hlv hst hlh (fun X Y x y _ _ => sAny_ok _ X Y x y)
  | iand => exact ss_bin hK hcs hlv hst hlh (fun X Y x y _ hy => sAnd_ok hy)
  | ior => exact ss_bin hK hcs hlv hst hlh (fun X Y x y _ _ => sAny_ok _ X Y x y)
  | ixor => exact ss_bin hK hcs hlv hst hlh (fun X Y x y _ _ => sAny_ok _ X Y x y)
  | ishl => exact ss_bin hK hcs hlv hst hlh (fun X Y x y _ _ => sAny_ok (fun x y => x <<< (y &&& 31)) X Y x y)
  | ishr => exact ss_bin hK hcs hlv hst hlh (fun X Y x y _ _ => sAny_ok (fun x y => x >>> (y &&& 31)) X Y x y)
  | iushr => exact ss_bin hK hcs hlv hst hlh (fun X Y x y _ _ => sAny_ok (fun x y => (x.toUInt32 >>> (y.toUInt32 &&& Int32.toUInt32 31)).toInt32) X Y x y)
  | idiv => exact ss_div hK hcs hlv hst hlh
  | irem => exact ss_div hK hcs hlv hst hlh
  | ineg => exact ss_un hK hcs hlv hst hlh
  | i2b => exact ss_un hK hcs hlv hst hlh
  | i2c => exact ss_un hK hcs hlv hst hlh
  | ladd => exact ss_lbin hK hcs hlv hst hlh
  | lsub => exact ss_lbin hK hcs hlv hst hlh
  | lmul => exact ss_lbin hK hcs hlv hst hlh
  | ldiv => exact ss_ldiv hK hcs hlv hst hlh
  | lcmp => exact ss_lcmp hK hcs hlv hst hlh
  | i2l => exact ss_i2l hK hcs hlv hst hlh
  | l2i => exact ss_l2i hK hcs hlv hst hlh
  | dup => exact ss_dup hK hcs hlv hst hlh
  | dup2 => exact ss_dup2 hK hcs hlv hst hlh
  | pop => exact ss_pop hK hcs hlv hst hlh
  | ifCond cd off => exact ss_if hK hcs hlv hst hlh
  | if_icmp cd off => exact ss_icmp hK hcs hlv hst hlh
  | ifnull off => exact ss_ifnull hK hcs hlv hst hlh
  | ifnonnull off => exact ss_ifnonnull hK hcs hlv hst hlh
  | goto off => exact hK _ _ _ _ _ _ _ _ hcs hlv hst hlh
  | tableswitch dflt lo hi offs => exact ss_table hK hcs hlv hst hlh
  | getfield k => exact ss_get hK hcs hlv hst hlh
  | putfield k => exact ss_put hK hcs hlv hst hlh
  | getstatic k => exact ss_gets hK hcs hlv hst hlh
  | new k => exact ss_new hK hcs hlv hst hlh
  | newarray t => exact ss_newa hK hcs hlv hst hlh
  | anewarray k => exact ss_newa hK hcs hlv hst hlh
  | arraylength => exact ss_len hK hcs hlv hst hlh
  | iaload => exact ss_ald hK hcs hlv hst hlh (t := fun t => Nat.beq t 0)
  | laload => exact ss_ald hK hcs hlv hst hlh (t := fun t => Nat.beq t 1)
  | baload => exact ss_ald hK hcs hlv hst hlh (t := fun t => Nat.beq t 2 || Nat.beq t 3)
  | aaload => exact ss_ald hK hcs hlv hst hlh (t := fun t => Nat.ble 4 t)
  | iastore => exact ss_ist hK hcs hlv hst hlh (t := fun t => Nat.beq t 0) (gs := fun _ w => w) (gg := fun _ w => .int w) (fun _ _ _ _ hw _ => hw)
  | bastore => exact ss_ist hK hcs hlv hst hlh (t := fun t => Nat.beq t 2 || Nat.beq t 3) (gs := fun t w => sNar t (sIv cs w)) (gg := fun t w => narrow (gTy t) (.int w)) (fun k w x hk _ hb => sNar_ok (by
      rw [Bool.or_eq_true] at hk
      rcases hk with hk | hk
      · exact Or.inl (Nat.eq_of_beq_eq_true hk)
      · exact Or.inr (Nat.eq_of_beq_eq_true hk)) hb)
  | lastore => exact ss_last hK hcs hlv hst hlh
  | aastore => exact ss_aast hK hcs hlv hst hlh
  | invokevirtual k => exact ss_virt hK hcs hlv hst hlh hC
  | invokestatic k => exact ss_stat hK hcs hlv hst hlh hC
  | invokespecial k => exact ss_spec hK hcs hlv hst hlh hC
  | ireturn => exact ss_iret hcs hlh hst
  | lreturn => exact ss_lret hcs hlh hst
  | areturn => exact ss_aret hcs hlh hst
  | return_ => exact ss_vret hcs hlh hst
  | _ => exact sSim.none
end
section
/-! THE CLAIM OUT OF ONE WALK OF THE LAW'S BODY. Your part is whole_start (and what it stands on); all else here is the same for every law, but numbers. -/
def R_law : String := "MixStageLaw"
def lw_P (b : Addr) (xs : List Int32) (args : Array Value) (s : State) : Prop := args = #[.ref b] ∧ s.IntsAt b xs ∧ xs.length ≤ 6 ∧ (Jvm.Cond.and given_1 narrow_1).before args s = true
def lw_Q (_ : Array Value) (s : State) (o : Outcome) (t : State) : Prop := o = .returned (some (.int 1)) ∧ Framed s o t [] 600000 7302250
def lw_Z (below : List Frame) (a : Array Value) (s : State) : State → Prop := fun t => ∃ o, t.status = .running ∧ Ended t below o ∧ lw_Q a s o t
/-- the law's own end, with 1 on the stack, nothing written that was there before, its room as the claim has it -/
theorem lw_ret {p : Program} {l : Launch} {e : Env} {s : State} {m : MethodId} {below : List Frame} {meth : Method} {c : Code} {b : Nat} (hx : p.tables.exec = Jvm.exec) (hb : c.code = code) (hr : meth.sig.returnType = ret) (hlocks : meth.locks = false) {pc : Nat} {H : Heap} {ls : Array Slot} (hdg : decode code pc = .ok (.ireturn, 1)) : W p l e room_1 s m #[Value.ref b] below meth c H [] 600000 7302250 (lw_Z below #[Value.ref b] s) (F0 m pc ls [.int 1]) := by
  intro T hT X
  obtain ⟨fs, hret, hrun, hended, hW, hframe⟩ := X.leave (v := some (.int 1)) (hlocks := hlocks) (fun h => by rw [hr] at h; cases h)
  have hmeth' : T.vm.method? m = some meth := X.method'
  refine ⟨T.setFrames fs, ?_, .returned (some (.int 1)), hrun, hended, rfl, ⟨_, rfl⟩, hW, hframe⟩
  jvm_step X.here [X.here.top, hx, hb, hdg, hmeth', hr, ret, narrow_b1]
  (try refine ⟨rfl, ?_⟩); (try refine ⟨rfl, ?_⟩)
  first | (intro acts; rw [hret _ acts rfl rfl rfl]) | rw [hret _ _ rfl rfl rfl]
  exact Steps.refl _
/-- what holds at the law's entry: the machine, the code, the tables' words (any of lw_tbl by 'hts w (by decide +kernel)'), the script of L ints xs at the cell b, what the Statement gives of the start (any of its parts by flat_of_before) -/
def lw_At (p : Program) (s : State) (m : MethodId) (meth : Method) (c : Code) (b L : Nat) (xs : Nat → Int32) : Prop :=
  p.tables.exec = Jvm.exec ∧ c.code = code ∧ meth.sig.returnType = ret ∧ c.maxLocals = 4 ∧ s.vm.findClass R_law = some m.cls ∧ (∀ w ∈ lw_tbl, w.before #[Value.ref b] s = true) ∧ va_X b L xs s s.heap ∧ b < s.heap.size ∧ meth.locks = false ∧ (Jvm.Cond.and given_1 narrow_1).before #[Value.ref b] s = true
end
section
/-! THE START OF THE LAW in the pure picture (printed by wip/gen/gen15.py). -/
def gInT : List Nat := [1103, 1233, 2161, 1078, 1138, 1032, 4042, 4170, 1144, 2213, 2167, 1022, 7007]
set_option maxRecDepth 100000 in
theorem gInT_ok : (List.range 13).all (fun k => gHas (gInT.getD k 0) (.instantiable (gCn k) (gN k))) = true := by decide +kernel
theorem gInst {k : Nat} (hk : k < 13) : Cond.instantiable (gCn k) (gN k) ∈ gTB := gHas.mem (List.all_eq_true.mp gInT_ok k (List.mem_range.mpr hk))
def gTm (i : Nat) : Term := .string "MixStage$Tokens" (gSt i).1
def gTl : List Nat := [72, 58, 32]
def gTb3 : List (List Int32) := [gTx0, gTx1, gTx2]
def gFlat : List Cond := flatC (Jvm.Cond.and given_1 narrow_1)
set_option maxRecDepth 100000 in
theorem gf_ex : (List.range 3).all (fun i => decide (Cond.exactly (gTm i) "java/lang/String" ∈ gFlat)) = true := by decide +kernel
set_option maxRecDepth 100000 in
theorem gf_co : (List.range 3).all (fun i => decide (Cond.eq (.field (gTm i) "java/lang/String" "coder" "B") (.int 0) ∈ gFlat)) = true := by decide +kernel
set_option maxRecDepth 100000 in
theorem gf_ar : (List.range 3).all (fun i => decide (Cond.arrayOf (.field (gTm i) "java/lang/String" "value" "[B") .byte ∈ gFlat)) = true := by decide +kernel
set_option maxRecDepth 100000 in
theorem gf_le : (List.range 3).all (fun i => decide (Cond.eq (.length (.field (gTm i) "java/lang/String" "value" "[B")) (.int (Int32.ofNat (gTl.getD i 0))) ∈ gFlat)) = true := by decide +kernel
set_option maxRecDepth 100000 in
theorem gf_el : (List.range 3).all (fun i => (List.range (gTl.getD i 0)).all (fun j => decide (Cond.eq (.elem (.field (gTm i) "java/lang/String" "value" "[B") (.int (Int32.ofNat j))) (.int ((gTb3.getD i []).getD j 0)) ∈ gFlat))) = true := by decide +kernel
set_option maxRecDepth 100000 in
theorem gf_ne : (List.range 3).all (fun i => (List.range 3).all (fun j => Nat.beq i j || (decide (Cond.not (Cond.eq (gTm i) (gTm j)) ∈ gFlat) || decide (Cond.not (Cond.eq (gTm j) (gTm i)) ∈ gFlat)))) = true := by decide +kernel
set_option maxRecDepth 100000 in
theorem gf_cs : decide (Cond.eq (.static "java/lang/String" "COMPACT_STRINGS" "Z") (.int 1) ∈ gFlat) = true := by decide +kernel
set_option maxRecDepth 100000 in
theorem gf_si : decide (Cond.isRef (.static "jdk/internal/util/Preconditions" "SIOOBE_FORMATTER" "Ljava/util/function/BiFunction;") ∈ gFlat) = true := by decide +kernel
theorem gb_ls0 : gWd 1163 = some (.laysStatic "java/lang/String" "COMPACT_STRINGS" "Z") := by decide +kernel
theorem gb_ls1 : gWd 1179 = some (.laysStatic "jdk/internal/util/Preconditions" "SIOOBE_FORMATTER" "Ljava/util/function/BiFunction;") := by decide +kernel
theorem gb_in0 : gWd 1007 = some (.initialized "java/lang/String") := by decide +kernel
theorem gb_in1 : gWd 1009 = some (.initialized "jdk/internal/util/Preconditions") := by decide +kernel
theorem gb_sr : (List.range 3).all (fun i => decide (gWd (([1149, 1209, 1210] : List Nat).getD i 0) = some (.stringRef "MixStage$Tokens" (gSt i).1 (gSt i).2))) = true := by decide +kernel
def gEx (b : Nat) (aK aV : Nat → Nat) : Nat → Nat
  | 0 => b
  | 1 => aK 0
  | 2 => aV 0
  | 3 => aK 1
  | 4 => aV 1
  | 5 => aK 2
  | _ => aV 2
def gXs (xs : Nat → Int32) : Nat → Int32 := fun j => if j < 6 then xs j else 0
set_option maxHeartbeats 4000000 in
theorem gStart {p : Program} {s : State} {m : MethodId} {meth : Method} {c : Code} {b L : Nat} {xs : Nat → Int32} (hL : L ≤ 6) (C0 : lw_At p s m meth c b L xs) : ∃ G : gG, G.1 = 7 ∧ G.2.1 = s.heap.size ∧ gad G 0 = b ∧ gR G s (gH0 L (gXs xs)) s.heap ∧ gKz G s s.heap := by
  obtain ⟨-, -, -, -, -, hts, hX, hbl, -, hgv⟩ := C0
  have hs : ∀ w ∈ gFlat, w.before #[Value.ref b] s = true := flat_of_before _ hgv
  have hr : ∀ {n i : Nat}, i < n → i ∈ List.range n := fun h => List.mem_range.mpr h
  have hA : ∀ a : Nat, a < s.heap.size → ¬ s.heap.size ≤ a := fun a h => by omega
  have hT : gTb s := gTb.of hts
  have htb : ∀ w ∈ gTB, w.before #[Value.ref b] s = true := fun w hw => hT.use hw _
  obtain ⟨aK, aV, hS, hev⟩ := vk_Sof (args := #[Value.ref b]) (s := s) (N := 3) (tm := gTm) (len := gTl) (byt := gTb3) (A := fun q => s.heap.size ≤ q)
    (fun i hi => by rcases (show i = 0 ∨ i = 1 ∨ i = 2 by omega) with rfl | rfl | rfl <;> decide)
    (fun i hi => hs _ (of_decide_eq_true (List.all_eq_true.mp gf_ex i (hr hi))))
    (fun i hi => hs _ (of_decide_eq_true (List.all_eq_true.mp gf_co i (hr hi))))
    (fun i hi => hs _ (of_decide_eq_true (List.all_eq_true.mp gf_ar i (hr hi))))
    (fun i hi => hs _ (of_decide_eq_true (List.all_eq_true.mp gf_le i (hr hi))))
    (fun i hi j hj => hs _ (of_decide_eq_true (List.all_eq_true.mp (List.all_eq_true.mp gf_el i (hr hi)) j (hr hj))))
    (fun i j hi hj hne => by
      have h1 := List.all_eq_true.mp (List.all_eq_true.mp gf_ne i (hr hi)) j (hr hj)
      rw [Bool.or_eq_true, Bool.or_eq_true, decide_eq_true_eq, decide_eq_true_eq] at h1
      rcases h1 with h1 | h1 | h1
      · exact absurd (Nat.eq_of_beq_eq_true h1) hne
      · exact Or.inl (hs _ h1)
      · exact Or.inr (hs _ h1)) hA
  have hcl : ∀ k : Nat, ∃ q : ClassId × (Nat → Nat), k < 13 → u_Kn s (gCn k) (gT k) (gN k) q.1 q.2 := by
    intro k
    by_cases hk : k < 13
    · obtain ⟨cC, iS, h⟩ := u_known htb (gLayIn hk) (htb _ (gInst hk))
      exact ⟨(cC, iS), fun _ => h⟩
    · exact ⟨(0, fun _ => 0), fun h => absurd h hk⟩
  obtain ⟨qf, hqf⟩ := Classical.axiomOfChoice hcl
  obtain ⟨⟨cell0, o1, o2, o3, o4⟩, ⟨cfc, kc, ic, fc, cellc, hfc, hstc, -⟩, ⟨cfv, kv, iv, fv, cellv, hfv, hstv, -⟩, -⟩ := hS.1 0 (by omega)
  have hsi := va_Zqof (A := fun q => s.heap.size ≤ q) (hts _ (gWd.mem gb_ls1)) (hts _ (gWd.mem gb_in1)) (hs _ (of_decide_eq_true gf_si)) hA
  obtain ⟨sio, hsio⟩ : ∃ sio : Option Nat, va_Z "jdk/internal/util/Preconditions" "SIOOBE_FORMATTER" "Ljava/util/function/BiFunction;" (va_rf sio) (fun q => s.heap.size ≤ q) s s.heap := by
    rcases hsi with h | ⟨t, h⟩
    · exact ⟨none, h⟩
    · exact ⟨some t, h⟩
  have hco := va_Zof (A := fun q => s.heap.size ≤ q) (hts _ (gWd.mem gb_ls0)) (hts _ (gWd.mem gb_in0)) (va_eqt (hs _ (of_decide_eq_true gf_cs))) hA
  obtain ⟨dC, hdC⟩ : ∃ f : Nat → ClassId, f = fun k => if k < 13 then (qf k).1 else cell0.cls := ⟨_, rfl⟩
  obtain ⟨dI, hdI⟩ : ∃ f : Nat → Nat → Nat, f = fun k j => if k < 13 then (qf k).2 j else if j = 0 then fv.slot else fc.slot := ⟨_, rfl⟩
  have hC : ∀ k, k < 13 → dC k = (qf k).1 := fun k hk => by rw [hdC]; exact if_pos hk
  have hC13 : dC 13 = cell0.cls := by rw [hdC]; rfl
  have hI : ∀ k, k < 13 → dI k = (qf k).2 := fun k hk => by rw [hdI]; funext j; exact if_pos hk
  have hI0 : dI 13 0 = fv.slot := by rw [hdI]; rfl
  have hI1 : dI 13 1 = fc.slot := by rw [hdI]; rfl
  have hlt : ∀ i, i < 7 → gEx b aK aV i < s.heap.size := by
    intro i hi
    have hk : ∀ k, k < 3 → aK k < s.heap.size := fun k hk => by
      obtain ⟨⟨cell, q1, -⟩, -⟩ := hS.1 k hk
      exact (Array.getElem?_eq_some_iff.mp q1).1
    have hv : ∀ k, k < 3 → aV k < s.heap.size := fun k hk => by
      obtain ⟨-, -, -, cell, q1, -⟩ := hS.1 k hk
      exact (Array.getElem?_eq_some_iff.mp q1).1
    rcases (show i = 0 ∨ i = 1 ∨ i = 2 ∨ i = 3 ∨ i = 4 ∨ i = 5 ∨ i = 6 by omega) with rfl | rfl | rfl | rfl | rfl | rfl | rfl
    · exact hbl
    · exact hk 0 (by omega)
    · exact hv 0 (by omega)
    · exact hk 1 (by omega)
    · exact hv 1 (by omega)
    · exact hk 2 (by omega)
    · exact hv 2 (by omega)
  obtain ⟨G, hG⟩ : ∃ G : gG, G = (7, s.heap.size, gEx b aK aV, dC, dI, sio) := ⟨_, rfl⟩
  have g1 : G.1 = 7 := by rw [hG]
  have g2 : G.2.1 = s.heap.size := by rw [hG]
  have g3 : ∀ i, i < 7 → gad G i = gEx b aK aV i := fun i hi => by rw [hG]; exact if_pos hi
  have g4 : G.2.2.2.1 = dC := by rw [hG]
  have g5 : G.2.2.2.2.1 = dI := by rw [hG]
  have g6 : G.2.2.2.2.2 = sio := by rw [hG]
  have hstr : ∀ k, k < 3 → gEx b aK aV (2 * k + 1) = aK k ∧ gEx b aK aV (2 * k + 2) = aV k := by
    intro k hk
    rcases (show k = 0 ∨ k = 1 ∨ k = 2 by omega) with rfl | rfl | rfl <;> exact ⟨rfl, rfl⟩
  have hobj : ∀ k, k < 3 → gAt G s (2 * k + 1) (.inl (13, gStr (2 * k + 2))) s.heap := by
    intro k hk
    obtain ⟨⟨cell, q1, q2, q3, -⟩, ⟨cf1, k1, i1, f1, cell1, r1, -, r2, -, r3, -⟩, ⟨cf2, k2, i2, f2, cell2, t1, -, t2, t4, t3, -⟩, -⟩ := hS.1 k hk
    have e1 : cell1 = cell := Option.some.inj (r2.symm.trans q1)
    have e2 : cell2 = cell := Option.some.inj (t2.symm.trans q1)
    subst e1; subst e2
    have e3 : f1 = fc := by have := r1.symm.trans hfc; simp at this; exact this.2.2.2
    have e4 : f2 = fv := by have := t1.symm.trans hfv; simp at this; exact this.2.2.2
    subst e3; subst e4
    refine ⟨by show 13 < 14; decide, _, by rw [g3 _ (by omega), (hstr k hk).1]; exact q1, ?_, t4, q2, fun z => by rw [g1] at z; omega, fun j hj => ?_⟩
    · rw [g4]
      show _ = dC 13
      rw [hC13]
      exact Option.some.inj (q3.symm.trans o3)
    · rw [g5]
      have hj2 : j < 2 := hj
      rcases (show j = 0 ∨ j = 1 by omega) with rfl | rfl
      · have e5 : grv G (gStr (2 * k + 2) 0) = .ref (gad G (2 * k + 2)) := rfl
        dsimp only
        rw [e5, hI0, g3 _ (by omega), (hstr k hk).2]
        exact t3
      · have e5 : grv G (gStr (2 * k + 2) 1) = .int 0 := rfl
        dsimp only
        rw [e5, hI1]
        exact r3
  have harr : ∀ k, k < 3 → gAt G s (2 * k + 2) (.inr (2, gTl.getD k 0, gTxV (gTb3.getD k []))) s.heap := by
    intro k hk
    obtain ⟨-, -, -, cell, q1, q2, q3, q4, q5, q6, -⟩ := hS.1 k hk
    exact ⟨by show 2 < 7; decide, cell, by rw [g3 _ (by omega), (hstr k hk).2]; exact q1, q2, q3, q4, q5, fun j hj => q6 j hj, fun z => by rw [g1] at z; omega⟩
  refine ⟨G, g1, g2, by rw [g3 0 (by omega)]; rfl, ⟨by rw [g1, g2]; rfl, by rw [g1]; exact Nat.le_refl 7, fun i hi => by rw [g1] at hi; rw [g2, hG]; exact hlt i hi, fun i cc hc => ?_⟩, hT, ⟨fun k hk => ?_, fun k hk => ?_, fun k hk f hf => ?_⟩, fun k hk => ?_, ?_, ?_⟩
  · obtain ⟨scr, v1, v2, v3, v4, v5⟩ := hX
    match i, hc with
    | 0, hc =>
      cases hc
      refine ⟨by show 0 < 7; decide, scr, by rw [g3 0 (by omega)]; exact v1, v2, v3, by rw [v4]; exact Nat.le_refl L, by rw [v4], fun j hj => ?_, fun z => by rw [g1] at z; omega⟩
      have hjL : j < L := hj
      show _ = some (Value.int (gXs xs j))
      unfold gXs
      rw [if_pos (by omega)]
      exact v5 j hj
    | 1, hc => cases hc; exact hobj 0 (by omega)
    | 2, hc => cases hc; exact harr 0 (by omega)
    | 3, hc => cases hc; exact hobj 1 (by omega)
    | 4, hc => cases hc; exact harr 1 (by omega)
    | 5, hc => cases hc; exact hobj 2 (by omega)
    | 6, hc => cases hc; exact harr 2 (by omega)
    | n + 7, hc => simp [gH0] at hc
  · rw [g4]
    by_cases hk13 : k < 13
    · rw [hC k hk13]
      exact (hqf k hk13).2.1
    · rw [show k = 13 by omega, hC13]
      exact o3
  · rw [g4, hC k hk]
    exact (hqf k hk).2
  · rw [g5]
    by_cases hk13 : k < 13
    · obtain ⟨cf, kf, fi, fd, h1, h2⟩ := (hqf k hk13).1 f hf
      exact ⟨cf, kf, fi, fd, h1, (u_facts (hqf k hk13).2.1 (hqf k hk13).2.2.choose_spec.1 (u_lays htb (gLayIn hk13) hf) h1).1, by rw [hI k hk13]; exact h2⟩
    · obtain rfl : k = 13 := by omega
      have hf2 : f < 2 := hf
      rcases (show f = 0 ∨ f = 1 by omega) with rfl | rfl
      · exact ⟨cfv, kv, iv, fv, hfv, hstv, hI0.symm⟩
      · exact ⟨cfc, kc, ic, fc, hfc, hstc, hI1.symm⟩
  · have h9 := of_decide_eq_true (List.all_eq_true.mp gb_sr k (hr hk))
    rw [g3 _ (by omega), (hstr k hk).1]
    exact vk_R.of (hts _ (gWd.mem h9)) (hev k hk)
  · rw [g2]
    exact hco
  · rw [g2, g6]
    exact hsio
end
section
/-! THE LAW'S RUN for scripts of six ints at most: done by the kernel on names. -/
def sTx (l : List Int32) : List (Nat × sV) := (List.range' 0 l.length).map (fun j => (j, sK0 (l.getD j 0).toInt))
def sTx6 : List (Nat × sV) := (List.range' 0 6).map (fun j => (j, (10 + j, 0, 0)))
def sH0 (L : Nat) : sH := [(100, L, sTx6), (13, 0, [(0, (3, 2, 0))]), (102, 72, sTx gTx0), (13, 0, [(0, (3, 4, 0))]), (102, 58, sTx gTx1), (13, 0, [(0, (3, 6, 0))]), (102, 32, sTx gTx2)]
def sCs0 : sI := List.replicate 6 sFull ++ [(-1, 1), (-1, 1)]
def ssz1 (c : sC) : Nat := bif Nat.blt c.1 100 then gN c.1 else c.2.1
def ssz (lh : sH) : Nat := (lh.map ssz1).sum
def sLfOK (f : sLf) : Bool := (match f.2.2.2 with
  | [(0, lo, hi)] => decide (lo = 1) && decide (hi = 1)
  | _ => false) && (Nat.ble f.2.1.length 600007 && Nat.ble (ssz f.2.1) 7302250)
noncomputable def sLaw (n L : Nat) : Bool := match sRun n sCs0 0 20 0 [(0, (3, 0, 0))] [] (sH0 L) with
  | some l => l.all sLfOK
  | none => false
theorem sZero (ρ : Nat → Int32) : sRel ρ (0, 0, 0) (.int 0) := ⟨0, rfl, by decide, by decide⟩
theorem sLk2_map (g : Nat → sV) (d : sV) (j : Nat) : ∀ (n s : Nat), sLk2 j ((List.range' s n).map (fun i => (i, g i))) d = if s ≤ j ∧ j < s + n then g j else d := by
  intro n
  induction n with
  | zero => intro s; rw [if_neg (by omega)]; rfl
  | succ n ih =>
    intro s
    rw [List.range'_succ, List.map_cons]
    show (bif Nat.beq j s then g s else sLk2 j ((List.range' (s + 1) n).map (fun i => (i, g i))) d) = _
    cases hq : Nat.beq j s with
    | true =>
      have e := Nat.eq_of_beq_eq_true hq
      subst e
      rw [if_pos (by omega)]
      rfl
    | false =>
      have e := Nat.ne_of_beq_eq_false hq
      show sLk2 j _ d = _
      rw [ih]
      by_cases h : s + 1 ≤ j ∧ j < s + 1 + n
      · rw [if_pos h, if_pos (by omega)]
      · rw [if_neg h, if_neg (by omega)]
theorem sTx_ok (ρ : Nat → Int32) (l : List Int32) (n : Nat) (j : Nat) : sRel ρ (sGet (102, n, sTx l) j) (gTxV l j) := by
  show sRel ρ (sLk2 j ((List.range' 0 l.length).map (fun j => (j, sK0 (l.getD j 0).toInt))) (sDf 102 j)) _
  rw [sLk2_map]
  by_cases h : 0 ≤ j ∧ j < 0 + l.length
  · rw [if_pos h]
    exact sK0_ok
  · rw [if_neg h]
    unfold gTxV
    rw [List.getD_eq_getElem?_getD, List.getElem?_eq_none (by omega)]
    exact sZero _
theorem sStr_ok (ρ : Nat → Int32) (q : Nat) (j : Nat) : sRel ρ (sGet (13, 0, [(0, (3, (q : Int), 0))]) j) (gStr q j) := by
  cases j with
  | zero => rfl
  | succ j => exact sZero _
def sXs (xs : Nat → Int32) (k : Nat) : Int32 := if k < 6 then gXs xs k else if k = 6 then sSgn (gXs xs 3) (gXs xs 4) else if k = 7 then sSgn (gXs xs 2) (gXs xs 4) else 0
theorem sXs_lt (xs : Nat → Int32) (k : Nat) (h : k < 6) : sXs xs k = gXs xs k := if_pos h
theorem sScr_ok (xs : Nat → Int32) (L : Nat) (j : Nat) : sRel (sXs xs) (sGet (100, L, sTx6) j) (.int (gXs xs j)) := by
  show sRel (sXs xs) (sLk2 j ((List.range' 0 6).map (fun j => (j, (10 + j, 0, 0)))) (sDf 100 j)) _
  rw [sLk2_map]
  by_cases h : 0 ≤ j ∧ j < 0 + 6
  · rw [if_pos h, ← sXs_lt xs j (by omega)]
    rcases (show j = 0 ∨ j = 1 ∨ j = 2 ∨ j = 3 ∨ j = 4 ∨ j = 5 by omega) with rfl | rfl | rfl | rfl | rfl | rfl <;> exact ⟨by decide, rfl⟩
  · rw [if_neg h]
    unfold gXs
    rw [if_neg (by omega)]
    exact sZero _
theorem sH0_ok (xs : Nat → Int32) (L : Nat) : sRH (sXs xs) (sH0 L) (gH0 L (gXs xs)) :=
  ⟨⟨Nat.le_refl 100, rfl, rfl, sScr_ok xs L⟩, ⟨by show 13 < 100; decide, rfl, sStr_ok _ 2⟩, ⟨by show 100 ≤ 102; decide, rfl, rfl, sTx_ok _ _ _⟩, ⟨by show 13 < 100; decide, rfl, sStr_ok _ 4⟩, ⟨by show 100 ≤ 102; decide, rfl, rfl, sTx_ok _ _ _⟩, ⟨by show 13 < 100; decide, rfl, sStr_ok _ 6⟩, ⟨by show 100 ≤ 102; decide, rfl, rfl, sTx_ok _ _ _⟩, trivial⟩
theorem sSgn_in (x y : Int32) : (-1 : Int) ≤ (sSgn x y).toInt ∧ (sSgn x y).toInt ≤ 1 := by
  unfold sSgn
  split
  · decide
  · split <;> decide
theorem sCs0_ok (xs : Nat → Int32) : sOK (sXs xs) sCs0 := by
  refine ⟨⟨rfl, rfl⟩, fun k => ?_⟩
  rcases (show k < 6 ∨ k = 6 ∨ k = 7 ∨ 8 ≤ k by omega) with h | rfl | rfl | h
  · have e : sCs0.getD k sFull = sFull := by
      rcases (show k = 0 ∨ k = 1 ∨ k = 2 ∨ k = 3 ∨ k = 4 ∨ k = 5 by omega) with rfl | rfl | rfl | rfl | rfl | rfl <;> rfl
    rw [e]
    exact sFull_ok _
  · exact sSgn_in _ _
  · exact sSgn_in _ _
  · have e : sCs0.getD k sFull = sFull := by
      rw [List.getD_eq_getElem?_getD, List.getElem?_eq_none h]
      rfl
    rw [e]
    exact sFull_ok _
theorem ssz_ok {ρ : Nat → Int32} : ∀ {lh : sH} {lh' : gH}, sRH ρ lh lh' → gsz lh' = ssz lh := by
  intro lh
  induction lh with
  | nil => intro lh' h; cases lh' with
    | nil => rfl
    | cons b m => exact h.elim
  | cons a l ih => intro lh' h; cases lh' with
    | nil => exact h.elim
    | cons b m =>
      have e := ih h.2
      unfold gsz ssz at e ⊢
      rw [List.map_cons, List.sum_cons, List.map_cons, List.sum_cons, e]
      congr 1
      have h1 := h.1
      cases b with
      | inl ob =>
        obtain ⟨q1, q2, -⟩ := h1
        unfold ssz1
        rw [show Nat.blt a.1 100 = true from Nat.blt_eq.mpr q1]
        show gN ob.1 = gN a.1
        rw [q2]
      | inr y =>
        obtain ⟨q1, -, q3, -⟩ := h1
        unfold ssz1
        rw [show Nat.blt a.1 100 = false from by
          cases hq : Nat.blt a.1 100 with
          | false => rfl
          | true => have := Nat.blt_eq.mp hq; omega]
        exact q3
theorem g_start {n : Nat} {p : Program} {e : Env} {s : State} {m : MethodId} {below : List Frame} {meth : Method} {c : Code} (l : Launch) {b L : Nat} {xs : Nat → Int32} (hL : L ≤ 6) (C0 : lw_At p s m meth c b L xs) (hrun : sLaw n L = true) : W p l e room_1 s m #[Value.ref b] below meth c s.heap [] 0 0 (lw_Z below #[Value.ref b] s) (entryFrame m ([Value.ref b] : List Value).toArray 4) := by
  obtain ⟨G, hG1, hG2, hG0, hR, hK⟩ := gStart hL C0
  obtain ⟨hx, hb, hr, hml, hown, hts, hX, hbl, hlocks, hgv⟩ := C0
  unfold sLaw at hrun
  split at hrun
  rotate_left
  · cases hrun
  rename_i lf hlf
  obtain ⟨f, hf, o, ho, q1, q2, q3, q4⟩ := sMain (ρ := sXs xs) n sCs0 0 20 0 [(0, (3, 0, 0))] [(0, .ref 0)] [] [] (sH0 L) (gH0 L (gXs xs)) (sCs0_ok _) ⟨⟨rfl, rfl⟩, trivial⟩ trivial (sH0_ok xs L) lf hlf
  have hok := List.all_eq_true.mp hrun f hf
  unfold sLfOK at hok
  rw [Bool.and_eq_true, Bool.and_eq_true] at hok
  have hlen : o.1.length ≤ 600007 := by rw [← sRH_len q2]; exact Nat.le_of_ble_eq_true hok.2.1
  have hsz : gsz o.1 ≤ 7302250 := by rw [ssz_ok q2]; exact Nat.le_of_ble_eq_true hok.2.2
  have hst : o.2.2 = [.int 1] := by
    have h1 := hok.1
    split at h1
    · rename_i lo hi hfs
      rw [hfs] at q4
      rw [Bool.and_eq_true, decide_eq_true_eq, decide_eq_true_eq] at h1
      rcases gF2.cases q4 with ⟨z, -⟩ | ⟨a1, l1, b1, m1, z1, z2, z3, z4⟩
      · cases z
      · cases z1
        rcases gF2.cases z4 with ⟨-, z5⟩ | ⟨a2, l2, b2, m2, z5, -⟩
        · obtain ⟨x, y1, y2, y3⟩ := z3
          have e1 : x.toInt = (1 : Int32).toInt := by
            rw [show (1 : Int32).toInt = 1 from rfl]
            have y2' : lo ≤ x.toInt := y2
            have y3' : x.toInt ≤ hi := y3
            omega
          rw [z2, z5, y1, Int32.toInt_inj.mp e1]
        · cases z5
    · cases h1
  have hcx : gCx G p room_1 s m meth c (gM 0).1.cls (gM 0).1.name (gBy 0) (gMax 0) 7 (gsz (gH0 L (gXs xs))) 20 o := ⟨hx, hb, hml, hown, hK, hG1, fun z => absurd z (by decide), by decide, by decide, hlen, Nat.le_trans hsz (Nat.le_add_right _ _)⟩
  have hgo := gMain hG1 l n 0 20 0 [(0, .ref 0)] [] (gH0 L (gXs xs)) o ho p e room_1 s m #[Value.ref b] below meth c (lw_Z below #[Value.ref b] s) 7 (gsz (gH0 L (gXs xs)))
  have hl := lv_entry ([.ref b]) (n := 4) (Nat.le_of_ble_eq_true rfl)
  rw [lg_entry_eq]
  generalize (lg_sl ([.ref b]) ++ List.replicate (4 - (lg_sl ([.ref b])).length) Slot.unset).toArray = ls at hl ⊢
  have hl : lv_has ls 4 (gLv G [(0, .ref 0)]) := by
    have e : gLv G [(0, .ref 0)] = [(0, .ref b)] := by
      show [(0, Value.ref (gad G 0))] = _
      rw [hG0]
    rw [e]
    exact hl
  refine hgo.2 hcx ?_ s.heap [] 0 0 ls hR va_S.rf hl (by rfl) (Nat.zero_add _)
  intro H locs cells slots ls hR' hS' hc hs
  have hS2 : ∀ q ∈ locs, s.heap.size ≤ q.base := fun q hq => by
    have h9 : G.2.1 ≤ q.base := hS'.2.2 q hq
    rw [hG2] at h9
    exact h9
  rw [hst]
  rcases hgo.1.1 with ⟨x, ty, -, -, -, hdg⟩ | ⟨x, -, z, -⟩ | ⟨w, ty, -, z1, z, z2, -⟩ | ⟨-, z, -⟩
  · refine va_forget hS2 ?_
    refine W.widen (k := 600000) (n := 7302250) (by omega) (by omega) ?_
    exact lw_ret hx hb hr hlocks hdg
  · rw [hst] at z
    cases z
  · rw [hst] at z
    rcases z2 with rfl | ⟨i, rfl⟩ <;> cases z
  · rw [hst] at z
    cases z
end
section
/-! THE KERNEL'S RUNS OF THE LAW (every script of that many ints at once). -/
set_option maxRecDepth 1000000 in
theorem g_run0 : sLaw 40000 0 = true := by decide +kernel
set_option maxRecDepth 1000000 in
theorem g_run1 : sLaw 40000 1 = true := by decide +kernel
set_option maxRecDepth 1000000 in
theorem g_run2 : sLaw 40000 2 = true := by decide +kernel
set_option maxRecDepth 1000000 in
theorem g_run3 : sLaw 40000 3 = true := by decide +kernel
end
section
/-! THE KERNEL'S RUNS OF THE LAW (every script of that many ints at once). -/
set_option maxRecDepth 1000000 in
theorem g_run4 : sLaw 40000 4 = true := by decide +kernel
set_option maxRecDepth 1000000 in
theorem g_run5 : sLaw 40000 5 = true := by decide +kernel
end
section
/-! THE KERNEL'S RUNS OF THE LAW (every script of that many ints at once). -/
set_option maxRecDepth 1000000 in
theorem g_run6 : sLaw 40000 6 = true := by decide +kernel
end
section
/-! THE CLAIM. -/
theorem whole_start {p : Program} {e : Env} {s : State} {m : MethodId} {below : List Frame} {meth : Method} {c : Code} (l : Launch) (_ : l.flags = flags0) {b L : Nat} {xs : Nat → Int32} (hL : L ≤ 6) (C0 : lw_At p s m meth c b L xs) : W p l e room_1 s m #[Value.ref b] below meth c s.heap [] 0 0 (lw_Z below #[Value.ref b] s) (entryFrame m ([Value.ref b] : List Value).toArray 4) := by
  rcases (show L = 0 ∨ L = 1 ∨ L = 2 ∨ L = 3 ∨ L = 4 ∨ L = 5 ∨ L = 6 by omega) with rfl | rfl | rfl | rfl | rfl | rfl | rfl
  · exact g_start (n := 40000) l hL C0 g_run0
  · exact g_start (n := 40000) l hL C0 g_run1
  · exact g_start (n := 40000) l hL C0 g_run2
  · exact g_start (n := 40000) l hL C0 g_run3
  · exact g_start (n := 40000) l hL C0 g_run4
  · exact g_start (n := 40000) l hL C0 g_run5
  · exact g_start (n := 40000) l hL C0 g_run6
set_option maxHeartbeats 4000000 in
theorem lw_walk (l : Launch) (hflags : l.flags = flags0) (b : Addr) (xs : List Int32) : MetFree l x (headSpec (Jvm.Cond.code x code maxLocals ret :: tables_1) room_1) (lw_P b xs) (fun _ _ _ _ _ => True) lw_Q := by
  refine MetFree.of_bodyS (code := code) (maxLocals := maxLocals) (ret := ret) (by decide) ?_ ?_
  · intro args s m h hn
    obtain ⟨meth, c, h1, h2, h3, h4, h5, h6, -, -⟩ := Cond.code_spec hn (atoms_spec (ws := Jvm.Cond.code x code maxLocals ret :: tables_1) h _ List.mem_cons_self)
    exact ⟨meth, c, h1, h2, h3, h4, h5, h6⟩
  · intro p e s m args below meth c s₁ B hml0 hP _
    obtain ⟨rfl, hx, hbd, hgv⟩ := hP
    obtain ⟨scr, harrAt, hlist, hof, hsmall⟩ := hx
    obtain ⟨hcb, hkn, -, -⟩ := State.arrayAt?_spec harrAt
    have hown : s.vm.findClass R_law = some m.cls := findClass_of_methodNamed B.named
    have hts0 : ∀ c ∈ (Jvm.Cond.code x code maxLocals ret :: tables_1), c.before #[Value.ref b] s = true := atoms_spec (ws := Jvm.Cond.code x code maxLocals ret :: tables_1) B.pre
    have hts : ∀ w ∈ lw_tbl, w.before #[Value.ref b] s = true := k2_hts_sels lw_privs (fun w hw => hts0 w (List.mem_cons_of_mem _ hw)) lw_privs_ok
    have hml : c.maxLocals = 4 := B.maxLocals_eq (hts0 _ List.mem_cons_self)
    have X₀ : Stand p l e room_1 s m #[Value.ref b] below meth c s₁ [] 0 0 := Stand.of_body B
    have hh0 : s₁.heap = s.heap := by rw [B.state]; rfl
    have hsz : scr.slots.size = xs.length := by rw [← Array.length_toList, hlist, List.length_map]
    have hval : ∀ j : Nat, j < xs.length → scr.slots[j]? = some (.int (xs.getD j 0)) := fun j hj => by
      rw [← Array.getElem?_toList, hlist]
      simp [hj]
    have hbl : b < s.heap.size := (Array.getElem?_eq_some_iff.mp hcb).1
    have hX : va_X b xs.length (fun j => xs.getD j 0) s s.heap := ⟨scr, hcb, hof, hkn, hsz, hval⟩
    have K : W p l e room_1 s m #[Value.ref b] below meth c s₁.heap [] 0 0 (lw_Z below #[Value.ref b] s) (entryFrame m ([Value.ref b] : List Value).toArray 4) := by
      rw [hh0]
      exact whole_start l hflags hbd ⟨B.exec, B.bytes, B.returns, hml, hown, hts, hX, hbl, B.notSynchronized, hgv⟩
    obtain ⟨t, a1, o, b1, b2, b3⟩ := K s₁ rfl X₀
    exact ⟨t, o, a1, b1, b2, b3⟩
theorem lw_pre_spec {args : Array Value} {s : State} (h : (Jvm.Cond.and given_1 narrow_1).before args s = true) (hr : rest_1_c.before args s = true) : ∃ (b : Addr) (xs : List Int32), lw_P b xs args s := by
  have hs := flat_of_before _ h
  have hq := flat_of_before _ hr
  have hc : (Cond.count 1).before args s = true := hs _ (by decide +kernel)
  have harr : (Cond.arrayOf (.arg 0) .int).before args s = true := hs _ (by decide +kernel)
  have hle : (Cond.le (.length (.arg 0)) (.int 6)).before args s = true := hs _ (by decide +kernel)
  have hlen : (Cond.isInt (.length (.arg 0))).before args s = true := hq _ (by decide +kernel)
  have hall : (Cond.all (.arg 0) (.isInt (.elem (.arg 0) (.index 0)))).before args s = true := hq _ (by decide +kernel)
  obtain ⟨b, xs, hb, hx⟩ := State.ints_of_pre rfl harr hlen hall
  have hsm : xs.length < 2 ^ 31 := hx.choose_spec.2.2.2
  have hev : (Term.length (.arg 0)).eval args s none [] s = some (.int xs.length.toInt32) := hx.length_eval hb
  have hv := Cond.le_ints hev (show (Term.int 6).eval args s none [] s = some (.int 6) from rfl)
  have hd : xs.length.toInt32 ≤ 6 := by
    simpa [Cond.before, Cond.holds, hv] using hle
  have hN : xs.length ≤ 6 := (Int32.ofNat_le_ofNat hsm (by decide)).mp (show Int32.ofNat xs.length ≤ Int32.ofNat 6 from hd)
  exact ⟨b, xs, Cond.one_arg hc (show args[0]? = some (.ref b) from hb), hx, hN, h⟩
theorem lw_comes (l : Launch) (hflags : l.flags = flags0) : Comes l x (Jvm.Cond.code x code maxLocals ret :: tables_1) room_1 (fun tb e args s => Calls_1 tb e args s ∧ rest_1 tb e args s ∧ Pre_1 tb e args s)
    (fun _ _ args s o t => lw_Q args s o t) := by
  intro p e ha hc hk s m args below hf hfit hheap happ hpre
  obtain ⟨b, xs, hP⟩ := lw_pre_spec hpre.2.2 hpre.2.1
  obtain ⟨k, o, h1, h2, h3, hQ⟩ := lw_walk l hflags b xs p e ha hc hk s m args below hf ((Spec.applies_iff_loose hf).mp happ).1 hP trivial
  exact ⟨k, o, h1, h2, h3, hQ⟩
theorem lw_frame {s t : State} {o : Outcome} {args : Array Value} (h : Framed s o t [] 600000 7302250) :
    Framed s o t (fieldLocs frame_1_writes args s ++ arrayLocs frame_1_arrays args s ++ staticLocs frame_1_statics s) 600000 7302250 := h
theorem lw_limb (L : Cond) (hL : ∀ (args : Array Value) (s t : State), L.after args s (.returned (some (.int 1))) t = true) :
    ArmFor flags0 classFile x code maxLocals ret World_1 tables_1 room_1 Calls_1 rest_1 Pre_1
      (fun tb e a s o t => postC L tb e a s o t ∧ Framed s o t (fieldLocs frame_1_writes a s ++ arrayLocs frame_1_arrays a s ++ staticLocs frame_1_statics s) 600000 7302250) := by
  intro l hflags _ _ p e ha hc hk s m args below hf hfit hheap happ hpre
  obtain ⟨k, o, h1, h2, h3, rfl, hF⟩ := lw_comes l hflags p e ha hc hk s m args below hf hfit hheap happ hpre
  exact ⟨k, _, h1, h2, h3, hL args s _, lw_frame hF⟩
theorem i_vc : Claimed_1_1 ∧ Claimed_1_2 := ⟨lw_limb limb_1_1 (fun args s t => by simp [limb_1_1, Cond.after, Cond.holds, Cond.value]), lw_limb limb_1_2 (fun args s t => Cond.after_iff.mpr (by
  first | (rw [show limb_1_2 = Cond.eq .result (.int 1) from rfl, Cond.eq_ints (x := 1) (y := 1) rfl rfl]; simp; done) | (simp [limb_1_2, Cond.value, Term.eval]; done)))⟩
end
