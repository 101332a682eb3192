section
-- ===== PART A: goes FIRST, ahead of the names: the tables' words, and 'selects' of the private methods out of them =====
/-- a private method of a class that the tables say can be made, by its rows of tables_1 -/
def lw_okq (q : MethodName × Nat) : Prop := (q.1.cls ≠ "java/lang/invoke/MethodHandle" ∧ q.1.cls ≠ "java/lang/invoke/VarHandle") ∧ Cond.instantiable q.1.cls q.2 ∈ tables_1 ∧ Cond.privateMethod q.1 ∈ tables_1 ∧ Cond.instanceMethod q.1 ∈ tables_1
theorem lw_p0 : lw_okq (⟨"GooseBorder$Reader", "skipBlanks", "()V"⟩, 6) := ⟨⟨by decide +kernel, by decide +kernel⟩, List.mem_of_getElem? (i := 162) (by decide +kernel), List.mem_of_getElem? (i := 381) (by decide +kernel), List.mem_of_getElem? (i := 382) (by decide +kernel)⟩
theorem lw_p1 : lw_okq (⟨"GooseBorder$Reader", "readLine", "(ILGooseBorder$Sheet;)Z"⟩, 6) := ⟨⟨by decide +kernel, by decide +kernel⟩, List.mem_of_getElem? (i := 162) (by decide +kernel), List.mem_of_getElem? (i := 385) (by decide +kernel), List.mem_of_getElem? (i := 386) (by decide +kernel)⟩
theorem lw_p2 : lw_okq (⟨"GooseBorder$Reader", "takeWord", "(I)I"⟩, 6) := ⟨⟨by decide +kernel, by decide +kernel⟩, List.mem_of_getElem? (i := 162) (by decide +kernel), List.mem_of_getElem? (i := 389) (by decide +kernel), List.mem_of_getElem? (i := 390) (by decide +kernel)⟩
theorem lw_p3 : lw_okq (⟨"GooseBorder$Reader", "isWord", "(Ljava/lang/String;I)Z"⟩, 6) := ⟨⟨by decide +kernel, by decide +kernel⟩, List.mem_of_getElem? (i := 162) (by decide +kernel), List.mem_of_getElem? (i := 415) (by decide +kernel), List.mem_of_getElem? (i := 416) (by decide +kernel)⟩
theorem lw_p4 : lw_okq (⟨"GooseBorder$Reader", "note", "(II)V"⟩, 6) := ⟨⟨by decide +kernel, by decide +kernel⟩, List.mem_of_getElem? (i := 162) (by decide +kernel), List.mem_of_getElem? (i := 493) (by decide +kernel), List.mem_of_getElem? (i := 494) (by decide +kernel)⟩
theorem lw_p5 : lw_okq (⟨"GooseBorder$Reader", "takeNumber", "(II)Z"⟩, 6) := ⟨⟨by decide +kernel, by decide +kernel⟩, List.mem_of_getElem? (i := 162) (by decide +kernel), List.mem_of_getElem? (i := 499) (by decide +kernel), List.mem_of_getElem? (i := 500) (by decide +kernel)⟩
theorem lw_p6 : lw_okq (⟨"GooseBorder$Reader", "canBe", "(III)Z"⟩, 6) := ⟨⟨by decide +kernel, by decide +kernel⟩, List.mem_of_getElem? (i := 162) (by decide +kernel), List.mem_of_getElem? (i := 503) (by decide +kernel), List.mem_of_getElem? (i := 504) (by decide +kernel)⟩
theorem lw_p7 : lw_okq (⟨"GooseBorder", "borderAt", "(I)LGooseBorder$Border;"⟩, 10) := ⟨⟨by decide +kernel, by decide +kernel⟩, List.mem_of_getElem? (i := 23) (by decide +kernel), List.mem_of_getElem? (i := 594) (by decide +kernel), List.mem_of_getElem? (i := 595) (by decide +kernel)⟩
theorem lw_p8 : lw_okq (⟨"GooseBorder", "nightAt", "(I)LGooseBorder$Night;"⟩, 10) := ⟨⟨by decide +kernel, by decide +kernel⟩, List.mem_of_getElem? (i := 23) (by decide +kernel), List.mem_of_getElem? (i := 647) (by decide +kernel), List.mem_of_getElem? (i := 648) (by decide +kernel)⟩
theorem lw_p9 : lw_okq (⟨"GooseBorder", "lawAt", "(I)LGooseBorder$Law;"⟩, 10) := ⟨⟨by decide +kernel, by decide +kernel⟩, List.mem_of_getElem? (i := 23) (by decide +kernel), List.mem_of_getElem? (i := 660) (by decide +kernel), List.mem_of_getElem? (i := 661) (by decide +kernel)⟩
theorem lw_p10 : lw_okq (⟨"GooseBorder", "dawnAt", "(I)LGooseBorder$Dawn;"⟩, 10) := ⟨⟨by decide +kernel, by decide +kernel⟩, List.mem_of_getElem? (i := 23) (by decide +kernel), List.mem_of_getElem? (i := 668) (by decide +kernel), List.mem_of_getElem? (i := 669) (by decide +kernel)⟩
theorem lw_p11 : lw_okq (⟨"GooseBorder", "playedOut", "(LGooseBorder$Border;LGooseBorder$Night;)Z"⟩, 10) := ⟨⟨by decide +kernel, by decide +kernel⟩, List.mem_of_getElem? (i := 23) (by decide +kernel), List.mem_of_getElem? (i := 698) (by decide +kernel), List.mem_of_getElem? (i := 699) (by decide +kernel)⟩
theorem lw_p12 : lw_okq (⟨"GooseBorder$Play", "canBe", "(LGooseBorder$Night;I)Z"⟩, 12) := ⟨⟨by decide +kernel, by decide +kernel⟩, List.mem_of_getElem? (i := 190) (by decide +kernel), List.mem_of_getElem? (i := 720) (by decide +kernel), List.mem_of_getElem? (i := 721) (by decide +kernel)⟩
theorem lw_p13 : lw_okq (⟨"GooseBorder$Play", "stands", "(II)Z"⟩, 12) := ⟨⟨by decide +kernel, by decide +kernel⟩, List.mem_of_getElem? (i := 190) (by decide +kernel), List.mem_of_getElem? (i := 730) (by decide +kernel), List.mem_of_getElem? (i := 731) (by decide +kernel)⟩
theorem lw_p14 : lw_okq (⟨"GooseBorder$Play", "latestGoer", "(I)I"⟩, 12) := ⟨⟨by decide +kernel, by decide +kernel⟩, List.mem_of_getElem? (i := 190) (by decide +kernel), List.mem_of_getElem? (i := 735) (by decide +kernel), List.mem_of_getElem? (i := 736) (by decide +kernel)⟩
theorem lw_p15 : lw_okq (⟨"GooseBorder$Play", "doDeed", "(LGooseBorder$Night;IZ)V"⟩, 12) := ⟨⟨by decide +kernel, by decide +kernel⟩, List.mem_of_getElem? (i := 190) (by decide +kernel), List.mem_of_getElem? (i := 740) (by decide +kernel), List.mem_of_getElem? (i := 741) (by decide +kernel)⟩
def lw_privs_1 : List (MethodName × Nat) := [(⟨"GooseBorder$Reader", "skipBlanks", "()V"⟩, 6), (⟨"GooseBorder$Reader", "readLine", "(ILGooseBorder$Sheet;)Z"⟩, 6), (⟨"GooseBorder$Reader", "takeWord", "(I)I"⟩, 6), (⟨"GooseBorder$Reader", "isWord", "(Ljava/lang/String;I)Z"⟩, 6), (⟨"GooseBorder$Reader", "note", "(II)V"⟩, 6), (⟨"GooseBorder$Reader", "takeNumber", "(II)Z"⟩, 6), (⟨"GooseBorder$Reader", "canBe", "(III)Z"⟩, 6), (⟨"GooseBorder", "borderAt", "(I)LGooseBorder$Border;"⟩, 10), (⟨"GooseBorder", "nightAt", "(I)LGooseBorder$Night;"⟩, 10), (⟨"GooseBorder", "lawAt", "(I)LGooseBorder$Law;"⟩, 10), (⟨"GooseBorder", "dawnAt", "(I)LGooseBorder$Dawn;"⟩, 10), (⟨"GooseBorder", "playedOut", "(LGooseBorder$Border;LGooseBorder$Night;)Z"⟩, 10), (⟨"GooseBorder$Play", "canBe", "(LGooseBorder$Night;I)Z"⟩, 12), (⟨"GooseBorder$Play", "stands", "(II)Z"⟩, 12), (⟨"GooseBorder$Play", "latestGoer", "(I)I"⟩, 12), (⟨"GooseBorder$Play", "doDeed", "(LGooseBorder$Night;IZ)V"⟩, 12)]
theorem lw_r1 : ∀ q ∈ lw_privs_1, lw_okq q := List.forall_mem_cons.mpr ⟨lw_p0, List.forall_mem_cons.mpr ⟨lw_p1, List.forall_mem_cons.mpr ⟨lw_p2, List.forall_mem_cons.mpr ⟨lw_p3, List.forall_mem_cons.mpr ⟨lw_p4, List.forall_mem_cons.mpr ⟨lw_p5, List.forall_mem_cons.mpr ⟨lw_p6, List.forall_mem_cons.mpr ⟨lw_p7, List.forall_mem_cons.mpr ⟨lw_p8, List.forall_mem_cons.mpr ⟨lw_p9, List.forall_mem_cons.mpr ⟨lw_p10, List.forall_mem_cons.mpr ⟨lw_p11, List.forall_mem_cons.mpr ⟨lw_p12, List.forall_mem_cons.mpr ⟨lw_p13, List.forall_mem_cons.mpr ⟨lw_p14, List.forall_mem_cons.mpr ⟨lw_p15, fun _ h => absurd h List.not_mem_nil⟩⟩⟩⟩⟩⟩⟩⟩⟩⟩⟩⟩⟩⟩⟩⟩
theorem lw_p16 : lw_okq (⟨"GooseBorder$Play", "eat", "(I)V"⟩, 12) := ⟨⟨by decide +kernel, by decide +kernel⟩, List.mem_of_getElem? (i := 190) (by decide +kernel), List.mem_of_getElem? (i := 756) (by decide +kernel), List.mem_of_getElem? (i := 757) (by decide +kernel)⟩
theorem lw_p17 : lw_okq (⟨"GooseBorder", "playedTo", "(LGooseBorder$Border;LGooseBorder$Night;I)Z"⟩, 10) := ⟨⟨by decide +kernel, by decide +kernel⟩, List.mem_of_getElem? (i := 23) (by decide +kernel), List.mem_of_getElem? (i := 764) (by decide +kernel), List.mem_of_getElem? (i := 765) (by decide +kernel)⟩
theorem lw_p18 : lw_okq (⟨"GooseBorder$Play", "payBy", "(I)I"⟩, 12) := ⟨⟨by decide +kernel, by decide +kernel⟩, List.mem_of_getElem? (i := 190) (by decide +kernel), List.mem_of_getElem? (i := 817) (by decide +kernel), List.mem_of_getElem? (i := 818) (by decide +kernel)⟩
theorem lw_p19 : lw_okq (⟨"GooseBorder$Play", "payTold", "(II)I"⟩, 12) := ⟨⟨by decide +kernel, by decide +kernel⟩, List.mem_of_getElem? (i := 190) (by decide +kernel), List.mem_of_getElem? (i := 821) (by decide +kernel), List.mem_of_getElem? (i := 822) (by decide +kernel)⟩
theorem lw_p20 : lw_okq (⟨"GooseBorder$Sharing", "begin", "(LGooseBorder$Border;LGooseBorder$Law;I)V"⟩, 11) := ⟨⟨by decide +kernel, by decide +kernel⟩, List.mem_of_getElem? (i := 244) (by decide +kernel), List.mem_of_getElem? (i := 895) (by decide +kernel), List.mem_of_getElem? (i := 896) (by decide +kernel)⟩
theorem lw_p21 : lw_okq (⟨"GooseBorder$Sharing", "payAnew", "(I)V"⟩, 11) := ⟨⟨by decide +kernel, by decide +kernel⟩, List.mem_of_getElem? (i := 244) (by decide +kernel), List.mem_of_getElem? (i := 906) (by decide +kernel), List.mem_of_getElem? (i := 907) (by decide +kernel)⟩
theorem lw_p22 : lw_okq (⟨"GooseBorder$Sharing", "spread", "()I"⟩, 11) := ⟨⟨by decide +kernel, by decide +kernel⟩, List.mem_of_getElem? (i := 244) (by decide +kernel), List.mem_of_getElem? (i := 913) (by decide +kernel), List.mem_of_getElem? (i := 914) (by decide +kernel)⟩
theorem lw_p23 : lw_okq (⟨"GooseBorder$Sharing", "together", "()I"⟩, 11) := ⟨⟨by decide +kernel, by decide +kernel⟩, List.mem_of_getElem? (i := 244) (by decide +kernel), List.mem_of_getElem? (i := 919) (by decide +kernel), List.mem_of_getElem? (i := 920) (by decide +kernel)⟩
theorem lw_p24 : lw_okq (⟨"GooseBorder$Sharing", "keepRow", "()V"⟩, 11) := ⟨⟨by decide +kernel, by decide +kernel⟩, List.mem_of_getElem? (i := 244) (by decide +kernel), List.mem_of_getElem? (i := 923) (by decide +kernel), List.mem_of_getElem? (i := 924) (by decide +kernel)⟩
theorem lw_p25 : lw_okq (⟨"GooseBorder$Sharing", "advance", "()V"⟩, 11) := ⟨⟨by decide +kernel, by decide +kernel⟩, List.mem_of_getElem? (i := 244) (by decide +kernel), List.mem_of_getElem? (i := 928) (by decide +kernel), List.mem_of_getElem? (i := 929) (by decide +kernel)⟩
theorem lw_p26 : lw_okq (⟨"GooseBorder$Flocks", "sumUp", "(LGooseBorder$Border;I[I)V"⟩, 6) := ⟨⟨by decide +kernel, by decide +kernel⟩, List.mem_of_getElem? (i := 289) (by decide +kernel), List.mem_of_getElem? (i := 983) (by decide +kernel), List.mem_of_getElem? (i := 984) (by decide +kernel)⟩
theorem lw_p27 : lw_okq (⟨"GooseBorder$Flocks", "paysAll", "(LGooseBorder$Border;II)Z"⟩, 6) := ⟨⟨by decide +kernel, by decide +kernel⟩, List.mem_of_getElem? (i := 289) (by decide +kernel), List.mem_of_getElem? (i := 1035) (by decide +kernel), List.mem_of_getElem? (i := 1036) (by decide +kernel)⟩
theorem lw_p28 : lw_okq (⟨"GooseBorder$Flocks", "goBy", "(II)V"⟩, 6) := ⟨⟨by decide +kernel, by decide +kernel⟩, List.mem_of_getElem? (i := 289) (by decide +kernel), List.mem_of_getElem? (i := 1056) (by decide +kernel), List.mem_of_getElem? (i := 1057) (by decide +kernel)⟩
theorem lw_p29 : lw_okq (⟨"GooseBorder$Flocks", "addGoing", "(I)V"⟩, 6) := ⟨⟨by decide +kernel, by decide +kernel⟩, List.mem_of_getElem? (i := 289) (by decide +kernel), List.mem_of_getElem? (i := 1060) (by decide +kernel), List.mem_of_getElem? (i := 1061) (by decide +kernel)⟩
theorem lw_p30 : lw_okq (⟨"GooseBorder", "drawnNight", "(LGooseBorder$Border;I)I"⟩, 10) := ⟨⟨by decide +kernel, by decide +kernel⟩, List.mem_of_getElem? (i := 23) (by decide +kernel), List.mem_of_getElem? (i := 1102) (by decide +kernel), List.mem_of_getElem? (i := 1103) (by decide +kernel)⟩
theorem lw_p31 : lw_okq (⟨"GooseBorder", "numberBelow", "(I)I"⟩, 10) := ⟨⟨by decide +kernel, by decide +kernel⟩, List.mem_of_getElem? (i := 23) (by decide +kernel), List.mem_of_getElem? (i := 1107) (by decide +kernel), List.mem_of_getElem? (i := 1108) (by decide +kernel)⟩
def lw_privs_2 : List (MethodName × Nat) := [(⟨"GooseBorder$Play", "eat", "(I)V"⟩, 12), (⟨"GooseBorder", "playedTo", "(LGooseBorder$Border;LGooseBorder$Night;I)Z"⟩, 10), (⟨"GooseBorder$Play", "payBy", "(I)I"⟩, 12), (⟨"GooseBorder$Play", "payTold", "(II)I"⟩, 12), (⟨"GooseBorder$Sharing", "begin", "(LGooseBorder$Border;LGooseBorder$Law;I)V"⟩, 11), (⟨"GooseBorder$Sharing", "payAnew", "(I)V"⟩, 11), (⟨"GooseBorder$Sharing", "spread", "()I"⟩, 11), (⟨"GooseBorder$Sharing", "together", "()I"⟩, 11), (⟨"GooseBorder$Sharing", "keepRow", "()V"⟩, 11), (⟨"GooseBorder$Sharing", "advance", "()V"⟩, 11), (⟨"GooseBorder$Flocks", "sumUp", "(LGooseBorder$Border;I[I)V"⟩, 6), (⟨"GooseBorder$Flocks", "paysAll", "(LGooseBorder$Border;II)Z"⟩, 6), (⟨"GooseBorder$Flocks", "goBy", "(II)V"⟩, 6), (⟨"GooseBorder$Flocks", "addGoing", "(I)V"⟩, 6), (⟨"GooseBorder", "drawnNight", "(LGooseBorder$Border;I)I"⟩, 10), (⟨"GooseBorder", "numberBelow", "(I)I"⟩, 10)]
theorem lw_r2 : ∀ q ∈ lw_privs_2, lw_okq q := List.forall_mem_cons.mpr ⟨lw_p16, List.forall_mem_cons.mpr ⟨lw_p17, List.forall_mem_cons.mpr ⟨lw_p18, List.forall_mem_cons.mpr ⟨lw_p19, List.forall_mem_cons.mpr ⟨lw_p20, List.forall_mem_cons.mpr ⟨lw_p21, List.forall_mem_cons.mpr ⟨lw_p22, List.forall_mem_cons.mpr ⟨lw_p23, List.forall_mem_cons.mpr ⟨lw_p24, List.forall_mem_cons.mpr ⟨lw_p25, List.forall_mem_cons.mpr ⟨lw_p26, List.forall_mem_cons.mpr ⟨lw_p27, List.forall_mem_cons.mpr ⟨lw_p28, List.forall_mem_cons.mpr ⟨lw_p29, List.forall_mem_cons.mpr ⟨lw_p30, List.forall_mem_cons.mpr ⟨lw_p31, fun _ h => absurd h List.not_mem_nil⟩⟩⟩⟩⟩⟩⟩⟩⟩⟩⟩⟩⟩⟩⟩⟩
theorem lw_p32 : lw_okq (⟨"GooseBorderModel", "isOf", "(II)Z"⟩, 44) := ⟨⟨by decide +kernel, by decide +kernel⟩, List.mem_of_getElem? (i := 1119) (by decide +kernel), List.mem_of_getElem? (i := 1273) (by decide +kernel), List.mem_of_getElem? (i := 1274) (by decide +kernel)⟩
theorem lw_p33 : lw_okq (⟨"GooseBorderModel", "advance", "()V"⟩, 44) := ⟨⟨by decide +kernel, by decide +kernel⟩, List.mem_of_getElem? (i := 1119) (by decide +kernel), List.mem_of_getElem? (i := 1277) (by decide +kernel), List.mem_of_getElem? (i := 1278) (by decide +kernel)⟩
theorem lw_p34 : lw_okq (⟨"GooseBorderModel", "byteAt", "(I)I"⟩, 44) := ⟨⟨by decide +kernel, by decide +kernel⟩, List.mem_of_getElem? (i := 1119) (by decide +kernel), List.mem_of_getElem? (i := 1281) (by decide +kernel), List.mem_of_getElem? (i := 1282) (by decide +kernel)⟩
theorem lw_p35 : lw_okq (⟨"GooseBorderModel", "borderLine", "()V"⟩, 44) := ⟨⟨by decide +kernel, by decide +kernel⟩, List.mem_of_getElem? (i := 1119) (by decide +kernel), List.mem_of_getElem? (i := 1303) (by decide +kernel), List.mem_of_getElem? (i := 1304) (by decide +kernel)⟩
theorem lw_p36 : lw_okq (⟨"GooseBorderModel", "takes", "(II)I"⟩, 44) := ⟨⟨by decide +kernel, by decide +kernel⟩, List.mem_of_getElem? (i := 1119) (by decide +kernel), List.mem_of_getElem? (i := 1307) (by decide +kernel), List.mem_of_getElem? (i := 1308) (by decide +kernel)⟩
theorem lw_p37 : lw_okq (⟨"GooseBorderModel", "ends", "()V"⟩, 44) := ⟨⟨by decide +kernel, by decide +kernel⟩, List.mem_of_getElem? (i := 1119) (by decide +kernel), List.mem_of_getElem? (i := 1311) (by decide +kernel), List.mem_of_getElem? (i := 1312) (by decide +kernel)⟩
theorem lw_p38 : lw_okq (⟨"GooseBorderModel", "pathLine", "(I)V"⟩, 44) := ⟨⟨by decide +kernel, by decide +kernel⟩, List.mem_of_getElem? (i := 1119) (by decide +kernel), List.mem_of_getElem? (i := 1315) (by decide +kernel), List.mem_of_getElem? (i := 1316) (by decide +kernel)⟩
theorem lw_p39 : lw_okq (⟨"GooseBorderModel", "also", "(II)V"⟩, 44) := ⟨⟨by decide +kernel, by decide +kernel⟩, List.mem_of_getElem? (i := 1119) (by decide +kernel), List.mem_of_getElem? (i := 1319) (by decide +kernel), List.mem_of_getElem? (i := 1320) (by decide +kernel)⟩
theorem lw_p40 : lw_okq (⟨"GooseBorderModel", "numbered", "(II)I"⟩, 44) := ⟨⟨by decide +kernel, by decide +kernel⟩, List.mem_of_getElem? (i := 1119) (by decide +kernel), List.mem_of_getElem? (i := 1323) (by decide +kernel), List.mem_of_getElem? (i := 1324) (by decide +kernel)⟩
theorem lw_p41 : lw_okq (⟨"GooseBorderModel", "gooseLine", "(I)V"⟩, 44) := ⟨⟨by decide +kernel, by decide +kernel⟩, List.mem_of_getElem? (i := 1119) (by decide +kernel), List.mem_of_getElem? (i := 1327) (by decide +kernel), List.mem_of_getElem? (i := 1328) (by decide +kernel)⟩
theorem lw_p42 : lw_okq (⟨"GooseBorderModel", "endsLine", "()V"⟩, 44) := ⟨⟨by decide +kernel, by decide +kernel⟩, List.mem_of_getElem? (i := 1119) (by decide +kernel), List.mem_of_getElem? (i := 1331) (by decide +kernel), List.mem_of_getElem? (i := 1332) (by decide +kernel)⟩
theorem lw_p43 : lw_okq (⟨"GooseBorderModel", "deedLine", "()V"⟩, 44) := ⟨⟨by decide +kernel, by decide +kernel⟩, List.mem_of_getElem? (i := 1119) (by decide +kernel), List.mem_of_getElem? (i := 1335) (by decide +kernel), List.mem_of_getElem? (i := 1336) (by decide +kernel)⟩
theorem lw_p44 : lw_okq (⟨"GooseBorderModel", "gooseTold", "()I"⟩, 44) := ⟨⟨by decide +kernel, by decide +kernel⟩, List.mem_of_getElem? (i := 1119) (by decide +kernel), List.mem_of_getElem? (i := 1339) (by decide +kernel), List.mem_of_getElem? (i := 1340) (by decide +kernel)⟩
theorem lw_p45 : lw_okq (⟨"GooseBorderModel", "pathTold", "()I"⟩, 44) := ⟨⟨by decide +kernel, by decide +kernel⟩, List.mem_of_getElem? (i := 1119) (by decide +kernel), List.mem_of_getElem? (i := 1343) (by decide +kernel), List.mem_of_getElem? (i := 1344) (by decide +kernel)⟩
theorem lw_p46 : lw_okq (⟨"GooseBorderModel", "adds", "(IIIIII)V"⟩, 44) := ⟨⟨by decide +kernel, by decide +kernel⟩, List.mem_of_getElem? (i := 1119) (by decide +kernel), List.mem_of_getElem? (i := 1347) (by decide +kernel), List.mem_of_getElem? (i := 1348) (by decide +kernel)⟩
theorem lw_p47 : lw_okq (⟨"GooseBorderModel", "termLine", "()V"⟩, 44) := ⟨⟨by decide +kernel, by decide +kernel⟩, List.mem_of_getElem? (i := 1119) (by decide +kernel), List.mem_of_getElem? (i := 1351) (by decide +kernel), List.mem_of_getElem? (i := 1352) (by decide +kernel)⟩
def lw_privs_3 : List (MethodName × Nat) := [(⟨"GooseBorderModel", "isOf", "(II)Z"⟩, 44), (⟨"GooseBorderModel", "advance", "()V"⟩, 44), (⟨"GooseBorderModel", "byteAt", "(I)I"⟩, 44), (⟨"GooseBorderModel", "borderLine", "()V"⟩, 44), (⟨"GooseBorderModel", "takes", "(II)I"⟩, 44), (⟨"GooseBorderModel", "ends", "()V"⟩, 44), (⟨"GooseBorderModel", "pathLine", "(I)V"⟩, 44), (⟨"GooseBorderModel", "also", "(II)V"⟩, 44), (⟨"GooseBorderModel", "numbered", "(II)I"⟩, 44), (⟨"GooseBorderModel", "gooseLine", "(I)V"⟩, 44), (⟨"GooseBorderModel", "endsLine", "()V"⟩, 44), (⟨"GooseBorderModel", "deedLine", "()V"⟩, 44), (⟨"GooseBorderModel", "gooseTold", "()I"⟩, 44), (⟨"GooseBorderModel", "pathTold", "()I"⟩, 44), (⟨"GooseBorderModel", "adds", "(IIIIII)V"⟩, 44), (⟨"GooseBorderModel", "termLine", "()V"⟩, 44)]
theorem lw_r3 : ∀ q ∈ lw_privs_3, lw_okq q := List.forall_mem_cons.mpr ⟨lw_p32, List.forall_mem_cons.mpr ⟨lw_p33, List.forall_mem_cons.mpr ⟨lw_p34, List.forall_mem_cons.mpr ⟨lw_p35, List.forall_mem_cons.mpr ⟨lw_p36, List.forall_mem_cons.mpr ⟨lw_p37, List.forall_mem_cons.mpr ⟨lw_p38, List.forall_mem_cons.mpr ⟨lw_p39, List.forall_mem_cons.mpr ⟨lw_p40, List.forall_mem_cons.mpr ⟨lw_p41, List.forall_mem_cons.mpr ⟨lw_p42, List.forall_mem_cons.mpr ⟨lw_p43, List.forall_mem_cons.mpr ⟨lw_p44, List.forall_mem_cons.mpr ⟨lw_p45, List.forall_mem_cons.mpr ⟨lw_p46, List.forall_mem_cons.mpr ⟨lw_p47, fun _ h => absurd h List.not_mem_nil⟩⟩⟩⟩⟩⟩⟩⟩⟩⟩⟩⟩⟩⟩⟩⟩
theorem lw_p48 : lw_okq (⟨"GooseBorderModel", "seenLine", "()V"⟩, 44) := ⟨⟨by decide +kernel, by decide +kernel⟩, List.mem_of_getElem? (i := 1119) (by decide +kernel), List.mem_of_getElem? (i := 1355) (by decide +kernel), List.mem_of_getElem? (i := 1356) (by decide +kernel)⟩
theorem lw_p49 : lw_okq (⟨"GooseBorderModel", "isBorder", "(I)Z"⟩, 44) := ⟨⟨by decide +kernel, by decide +kernel⟩, List.mem_of_getElem? (i := 1119) (by decide +kernel), List.mem_of_getElem? (i := 1373) (by decide +kernel), List.mem_of_getElem? (i := 1374) (by decide +kernel)⟩
theorem lw_p50 : lw_okq (⟨"GooseBorderModel", "of", "(I)I"⟩, 44) := ⟨⟨by decide +kernel, by decide +kernel⟩, List.mem_of_getElem? (i := 1119) (by decide +kernel), List.mem_of_getElem? (i := 1377) (by decide +kernel), List.mem_of_getElem? (i := 1378) (by decide +kernel)⟩
theorem lw_p51 : lw_okq (⟨"GooseBorderModel", "isPath", "(I)Z"⟩, 44) := ⟨⟨by decide +kernel, by decide +kernel⟩, List.mem_of_getElem? (i := 1119) (by decide +kernel), List.mem_of_getElem? (i := 1381) (by decide +kernel), List.mem_of_getElem? (i := 1382) (by decide +kernel)⟩
theorem lw_p52 : lw_okq (⟨"GooseBorderModel", "paths", "()I"⟩, 44) := ⟨⟨by decide +kernel, by decide +kernel⟩, List.mem_of_getElem? (i := 1119) (by decide +kernel), List.mem_of_getElem? (i := 1385) (by decide +kernel), List.mem_of_getElem? (i := 1386) (by decide +kernel)⟩
theorem lw_p53 : lw_okq (⟨"GooseBorderModel", "ofPath", "(II)I"⟩, 44) := ⟨⟨by decide +kernel, by decide +kernel⟩, List.mem_of_getElem? (i := 1119) (by decide +kernel), List.mem_of_getElem? (i := 1389) (by decide +kernel), List.mem_of_getElem? (i := 1390) (by decide +kernel)⟩
theorem lw_p54 : lw_okq (⟨"GooseBorderModel", "isGoose", "(I)Z"⟩, 44) := ⟨⟨by decide +kernel, by decide +kernel⟩, List.mem_of_getElem? (i := 1119) (by decide +kernel), List.mem_of_getElem? (i := 1393) (by decide +kernel), List.mem_of_getElem? (i := 1394) (by decide +kernel)⟩
theorem lw_p55 : lw_okq (⟨"GooseBorderModel", "geese", "()I"⟩, 44) := ⟨⟨by decide +kernel, by decide +kernel⟩, List.mem_of_getElem? (i := 1119) (by decide +kernel), List.mem_of_getElem? (i := 1397) (by decide +kernel), List.mem_of_getElem? (i := 1398) (by decide +kernel)⟩
theorem lw_p56 : lw_okq (⟨"GooseBorderModel", "ofGoose", "(II)I"⟩, 44) := ⟨⟨by decide +kernel, by decide +kernel⟩, List.mem_of_getElem? (i := 1119) (by decide +kernel), List.mem_of_getElem? (i := 1401) (by decide +kernel), List.mem_of_getElem? (i := 1402) (by decide +kernel)⟩
theorem lw_p57 : lw_okq (⟨"GooseBorderModel", "left", "(IIIZI)I"⟩, 44) := ⟨⟨by decide +kernel, by decide +kernel⟩, List.mem_of_getElem? (i := 1119) (by decide +kernel), List.mem_of_getElem? (i := 1409) (by decide +kernel), List.mem_of_getElem? (i := 1410) (by decide +kernel)⟩
theorem lw_p58 : lw_okq (⟨"GooseBorderModel", "deeds", "()I"⟩, 44) := ⟨⟨by decide +kernel, by decide +kernel⟩, List.mem_of_getElem? (i := 1119) (by decide +kernel), List.mem_of_getElem? (i := 1417) (by decide +kernel), List.mem_of_getElem? (i := 1418) (by decide +kernel)⟩
theorem lw_p59 : lw_okq (⟨"GooseBorderModel", "deedOf", "(II)I"⟩, 44) := ⟨⟨by decide +kernel, by decide +kernel⟩, List.mem_of_getElem? (i := 1119) (by decide +kernel), List.mem_of_getElem? (i := 1421) (by decide +kernel), List.mem_of_getElem? (i := 1422) (by decide +kernel)⟩
theorem lw_p60 : lw_okq (⟨"GooseBorderModel", "areTold", "(II)Z"⟩, 44) := ⟨⟨by decide +kernel, by decide +kernel⟩, List.mem_of_getElem? (i := 1119) (by decide +kernel), List.mem_of_getElem? (i := 1429) (by decide +kernel), List.mem_of_getElem? (i := 1430) (by decide +kernel)⟩
theorem lw_p61 : lw_okq (⟨"GooseBorderModel", "runs", "(I)V"⟩, 44) := ⟨⟨by decide +kernel, by decide +kernel⟩, List.mem_of_getElem? (i := 1119) (by decide +kernel), List.mem_of_getElem? (i := 1433) (by decide +kernel), List.mem_of_getElem? (i := 1434) (by decide +kernel)⟩
theorem lw_p62 : lw_okq (⟨"GooseBorderModel", "begins", "()V"⟩, 44) := ⟨⟨by decide +kernel, by decide +kernel⟩, List.mem_of_getElem? (i := 1119) (by decide +kernel), List.mem_of_getElem? (i := 1437) (by decide +kernel), List.mem_of_getElem? (i := 1438) (by decide +kernel)⟩
theorem lw_p63 : lw_okq (⟨"GooseBorderModel", "can", "(I)Z"⟩, 44) := ⟨⟨by decide +kernel, by decide +kernel⟩, List.mem_of_getElem? (i := 1119) (by decide +kernel), List.mem_of_getElem? (i := 1441) (by decide +kernel), List.mem_of_getElem? (i := 1442) (by decide +kernel)⟩
def lw_privs_4 : List (MethodName × Nat) := [(⟨"GooseBorderModel", "seenLine", "()V"⟩, 44), (⟨"GooseBorderModel", "isBorder", "(I)Z"⟩, 44), (⟨"GooseBorderModel", "of", "(I)I"⟩, 44), (⟨"GooseBorderModel", "isPath", "(I)Z"⟩, 44), (⟨"GooseBorderModel", "paths", "()I"⟩, 44), (⟨"GooseBorderModel", "ofPath", "(II)I"⟩, 44), (⟨"GooseBorderModel", "isGoose", "(I)Z"⟩, 44), (⟨"GooseBorderModel", "geese", "()I"⟩, 44), (⟨"GooseBorderModel", "ofGoose", "(II)I"⟩, 44), (⟨"GooseBorderModel", "left", "(IIIZI)I"⟩, 44), (⟨"GooseBorderModel", "deeds", "()I"⟩, 44), (⟨"GooseBorderModel", "deedOf", "(II)I"⟩, 44), (⟨"GooseBorderModel", "areTold", "(II)Z"⟩, 44), (⟨"GooseBorderModel", "runs", "(I)V"⟩, 44), (⟨"GooseBorderModel", "begins", "()V"⟩, 44), (⟨"GooseBorderModel", "can", "(I)Z"⟩, 44)]
theorem lw_r4 : ∀ q ∈ lw_privs_4, lw_okq q := List.forall_mem_cons.mpr ⟨lw_p48, List.forall_mem_cons.mpr ⟨lw_p49, List.forall_mem_cons.mpr ⟨lw_p50, List.forall_mem_cons.mpr ⟨lw_p51, List.forall_mem_cons.mpr ⟨lw_p52, List.forall_mem_cons.mpr ⟨lw_p53, List.forall_mem_cons.mpr ⟨lw_p54, List.forall_mem_cons.mpr ⟨lw_p55, List.forall_mem_cons.mpr ⟨lw_p56, List.forall_mem_cons.mpr ⟨lw_p57, List.forall_mem_cons.mpr ⟨lw_p58, List.forall_mem_cons.mpr ⟨lw_p59, List.forall_mem_cons.mpr ⟨lw_p60, List.forall_mem_cons.mpr ⟨lw_p61, List.forall_mem_cons.mpr ⟨lw_p62, List.forall_mem_cons.mpr ⟨lw_p63, fun _ h => absurd h List.not_mem_nil⟩⟩⟩⟩⟩⟩⟩⟩⟩⟩⟩⟩⟩⟩⟩⟩
theorem lw_p64 : lw_okq (⟨"GooseBorderModel", "isAt", "(II)Z"⟩, 44) := ⟨⟨by decide +kernel, by decide +kernel⟩, List.mem_of_getElem? (i := 1119) (by decide +kernel), List.mem_of_getElem? (i := 1445) (by decide +kernel), List.mem_of_getElem? (i := 1446) (by decide +kernel)⟩
theorem lw_p65 : lw_okq (⟨"GooseBorderModel", "foxed", "(I)I"⟩, 44) := ⟨⟨by decide +kernel, by decide +kernel⟩, List.mem_of_getElem? (i := 1119) (by decide +kernel), List.mem_of_getElem? (i := 1449) (by decide +kernel), List.mem_of_getElem? (i := 1450) (by decide +kernel)⟩
theorem lw_p66 : lw_okq (⟨"GooseBorderModel", "does", "(I)V"⟩, 44) := ⟨⟨by decide +kernel, by decide +kernel⟩, List.mem_of_getElem? (i := 1119) (by decide +kernel), List.mem_of_getElem? (i := 1453) (by decide +kernel), List.mem_of_getElem? (i := 1454) (by decide +kernel)⟩
theorem lw_p67 : lw_okq (⟨"GooseBorderModel", "walks", "(IIIZI)V"⟩, 44) := ⟨⟨by decide +kernel, by decide +kernel⟩, List.mem_of_getElem? (i := 1119) (by decide +kernel), List.mem_of_getElem? (i := 1457) (by decide +kernel), List.mem_of_getElem? (i := 1458) (by decide +kernel)⟩
theorem lw_p68 : lw_okq (⟨"GooseBorderModel", "rains", "(I)V"⟩, 44) := ⟨⟨by decide +kernel, by decide +kernel⟩, List.mem_of_getElem? (i := 1119) (by decide +kernel), List.mem_of_getElem? (i := 1461) (by decide +kernel), List.mem_of_getElem? (i := 1462) (by decide +kernel)⟩
theorem lw_p69 : lw_okq (⟨"GooseBorderModel", "isState", "(III)Z"⟩, 44) := ⟨⟨by decide +kernel, by decide +kernel⟩, List.mem_of_getElem? (i := 1119) (by decide +kernel), List.mem_of_getElem? (i := 1469) (by decide +kernel), List.mem_of_getElem? (i := 1470) (by decide +kernel)⟩
theorem lw_p70 : lw_okq (⟨"GooseBorderModel", "tally", "(I)I"⟩, 44) := ⟨⟨by decide +kernel, by decide +kernel⟩, List.mem_of_getElem? (i := 1119) (by decide +kernel), List.mem_of_getElem? (i := 1477) (by decide +kernel), List.mem_of_getElem? (i := 1478) (by decide +kernel)⟩
theorem lw_p71 : lw_okq (⟨"GooseBorderModel", "padded", "(II)I"⟩, 44) := ⟨⟨by decide +kernel, by decide +kernel⟩, List.mem_of_getElem? (i := 1119) (by decide +kernel), List.mem_of_getElem? (i := 1481) (by decide +kernel), List.mem_of_getElem? (i := 1482) (by decide +kernel)⟩
theorem lw_p72 : lw_okq (⟨"GooseBorderModel", "pay", "(I)I"⟩, 44) := ⟨⟨by decide +kernel, by decide +kernel⟩, List.mem_of_getElem? (i := 1119) (by decide +kernel), List.mem_of_getElem? (i := 1485) (by decide +kernel), List.mem_of_getElem? (i := 1486) (by decide +kernel)⟩
theorem lw_p73 : lw_okq (⟨"GooseBorderModel", "worn", "()I"⟩, 44) := ⟨⟨by decide +kernel, by decide +kernel⟩, List.mem_of_getElem? (i := 1119) (by decide +kernel), List.mem_of_getElem? (i := 1493) (by decide +kernel), List.mem_of_getElem? (i := 1494) (by decide +kernel)⟩
theorem lw_p74 : lw_okq (⟨"GooseBorderModel", "allPay", "()I"⟩, 44) := ⟨⟨by decide +kernel, by decide +kernel⟩, List.mem_of_getElem? (i := 1119) (by decide +kernel), List.mem_of_getElem? (i := 1497) (by decide +kernel), List.mem_of_getElem? (i := 1498) (by decide +kernel)⟩
theorem lw_p75 : lw_okq (⟨"GooseBorderModel", "termOf", "(II)I"⟩, 44) := ⟨⟨by decide +kernel, by decide +kernel⟩, List.mem_of_getElem? (i := 1119) (by decide +kernel), List.mem_of_getElem? (i := 1505) (by decide +kernel), List.mem_of_getElem? (i := 1506) (by decide +kernel)⟩
theorem lw_p76 : lw_okq (⟨"GooseBorderModel", "paysBy", "(I)I"⟩, 44) := ⟨⟨by decide +kernel, by decide +kernel⟩, List.mem_of_getElem? (i := 1119) (by decide +kernel), List.mem_of_getElem? (i := 1513) (by decide +kernel), List.mem_of_getElem? (i := 1514) (by decide +kernel)⟩
theorem lw_p77 : lw_okq (⟨"GooseBorderModel", "canMarch", "(I)Z"⟩, 44) := ⟨⟨by decide +kernel, by decide +kernel⟩, List.mem_of_getElem? (i := 1119) (by decide +kernel), List.mem_of_getElem? (i := 1521) (by decide +kernel), List.mem_of_getElem? (i := 1522) (by decide +kernel)⟩
theorem lw_p78 : lw_okq (⟨"GooseBorderModel", "bestWorth", "(Z)I"⟩, 44) := ⟨⟨by decide +kernel, by decide +kernel⟩, List.mem_of_getElem? (i := 1119) (by decide +kernel), List.mem_of_getElem? (i := 1525) (by decide +kernel), List.mem_of_getElem? (i := 1526) (by decide +kernel)⟩
theorem lw_p79 : lw_okq (⟨"GooseBorderModel", "measures", "()V"⟩, 44) := ⟨⟨by decide +kernel, by decide +kernel⟩, List.mem_of_getElem? (i := 1119) (by decide +kernel), List.mem_of_getElem? (i := 1529) (by decide +kernel), List.mem_of_getElem? (i := 1530) (by decide +kernel)⟩
def lw_privs_5 : List (MethodName × Nat) := [(⟨"GooseBorderModel", "isAt", "(II)Z"⟩, 44), (⟨"GooseBorderModel", "foxed", "(I)I"⟩, 44), (⟨"GooseBorderModel", "does", "(I)V"⟩, 44), (⟨"GooseBorderModel", "walks", "(IIIZI)V"⟩, 44), (⟨"GooseBorderModel", "rains", "(I)V"⟩, 44), (⟨"GooseBorderModel", "isState", "(III)Z"⟩, 44), (⟨"GooseBorderModel", "tally", "(I)I"⟩, 44), (⟨"GooseBorderModel", "padded", "(II)I"⟩, 44), (⟨"GooseBorderModel", "pay", "(I)I"⟩, 44), (⟨"GooseBorderModel", "worn", "()I"⟩, 44), (⟨"GooseBorderModel", "allPay", "()I"⟩, 44), (⟨"GooseBorderModel", "termOf", "(II)I"⟩, 44), (⟨"GooseBorderModel", "paysBy", "(I)I"⟩, 44), (⟨"GooseBorderModel", "canMarch", "(I)Z"⟩, 44), (⟨"GooseBorderModel", "bestWorth", "(Z)I"⟩, 44), (⟨"GooseBorderModel", "measures", "()V"⟩, 44)]
theorem lw_r5 : ∀ q ∈ lw_privs_5, lw_okq q := List.forall_mem_cons.mpr ⟨lw_p64, List.forall_mem_cons.mpr ⟨lw_p65, List.forall_mem_cons.mpr ⟨lw_p66, List.forall_mem_cons.mpr ⟨lw_p67, List.forall_mem_cons.mpr ⟨lw_p68, List.forall_mem_cons.mpr ⟨lw_p69, List.forall_mem_cons.mpr ⟨lw_p70, List.forall_mem_cons.mpr ⟨lw_p71, List.forall_mem_cons.mpr ⟨lw_p72, List.forall_mem_cons.mpr ⟨lw_p73, List.forall_mem_cons.mpr ⟨lw_p74, List.forall_mem_cons.mpr ⟨lw_p75, List.forall_mem_cons.mpr ⟨lw_p76, List.forall_mem_cons.mpr ⟨lw_p77, List.forall_mem_cons.mpr ⟨lw_p78, List.forall_mem_cons.mpr ⟨lw_p79, fun _ h => absurd h List.not_mem_nil⟩⟩⟩⟩⟩⟩⟩⟩⟩⟩⟩⟩⟩⟩⟩⟩
theorem lw_p80 : lw_okq (⟨"GooseBorderModel", "firstMarks", "(II)I"⟩, 44) := ⟨⟨by decide +kernel, by decide +kernel⟩, List.mem_of_getElem? (i := 1119) (by decide +kernel), List.mem_of_getElem? (i := 1533) (by decide +kernel), List.mem_of_getElem? (i := 1534) (by decide +kernel)⟩
theorem lw_p81 : lw_okq (⟨"GooseBorderModel", "codes", "()I"⟩, 44) := ⟨⟨by decide +kernel, by decide +kernel⟩, List.mem_of_getElem? (i := 1119) (by decide +kernel), List.mem_of_getElem? (i := 1537) (by decide +kernel), List.mem_of_getElem? (i := 1538) (by decide +kernel)⟩
theorem lw_p82 : lw_okq (⟨"GooseBorderModel", "worthOf", "(IZ)I"⟩, 44) := ⟨⟨by decide +kernel, by decide +kernel⟩, List.mem_of_getElem? (i := 1119) (by decide +kernel), List.mem_of_getElem? (i := 1541) (by decide +kernel), List.mem_of_getElem? (i := 1542) (by decide +kernel)⟩
theorem lw_p83 : lw_okq (⟨"GooseBorderModel", "sums", "(I)V"⟩, 44) := ⟨⟨by decide +kernel, by decide +kernel⟩, List.mem_of_getElem? (i := 1119) (by decide +kernel), List.mem_of_getElem? (i := 1545) (by decide +kernel), List.mem_of_getElem? (i := 1546) (by decide +kernel)⟩
theorem lw_p84 : lw_okq (⟨"GooseBorderModel", "payOf", "(I)I"⟩, 44) := ⟨⟨by decide +kernel, by decide +kernel⟩, List.mem_of_getElem? (i := 1119) (by decide +kernel), List.mem_of_getElem? (i := 1549) (by decide +kernel), List.mem_of_getElem? (i := 1550) (by decide +kernel)⟩
theorem lw_p85 : lw_okq (⟨"GooseBorderModel", "figure", "(I)I"⟩, 44) := ⟨⟨by decide +kernel, by decide +kernel⟩, List.mem_of_getElem? (i := 1119) (by decide +kernel), List.mem_of_getElem? (i := 1553) (by decide +kernel), List.mem_of_getElem? (i := 1554) (by decide +kernel)⟩
theorem lw_p86 : lw_okq (⟨"GooseBorderModel", "bestPath", "(I)I"⟩, 44) := ⟨⟨by decide +kernel, by decide +kernel⟩, List.mem_of_getElem? (i := 1119) (by decide +kernel), List.mem_of_getElem? (i := 1569) (by decide +kernel), List.mem_of_getElem? (i := 1570) (by decide +kernel)⟩
theorem lw_p87 : lw_okq (⟨"GooseBorderModel", "lamePay", "(IZ)I"⟩, 44) := ⟨⟨by decide +kernel, by decide +kernel⟩, List.mem_of_getElem? (i := 1119) (by decide +kernel), List.mem_of_getElem? (i := 1573) (by decide +kernel), List.mem_of_getElem? (i := 1574) (by decide +kernel)⟩
theorem lw_p88 : lw_okq (⟨"GooseBorderModel", "isRest", "(I)Z"⟩, 44) := ⟨⟨by decide +kernel, by decide +kernel⟩, List.mem_of_getElem? (i := 1119) (by decide +kernel), List.mem_of_getElem? (i := 1581) (by decide +kernel), List.mem_of_getElem? (i := 1582) (by decide +kernel)⟩
theorem lw_p89 : lw_okq (⟨"GooseBorderModel", "takeOf", "(II)I"⟩, 44) := ⟨⟨by decide +kernel, by decide +kernel⟩, List.mem_of_getElem? (i := 1119) (by decide +kernel), List.mem_of_getElem? (i := 1585) (by decide +kernel), List.mem_of_getElem? (i := 1586) (by decide +kernel)⟩
theorem lw_p90 : lw_okq (⟨"GooseBorderModel", "seenOf", "(II)I"⟩, 44) := ⟨⟨by decide +kernel, by decide +kernel⟩, List.mem_of_getElem? (i := 1119) (by decide +kernel), List.mem_of_getElem? (i := 1601) (by decide +kernel), List.mem_of_getElem? (i := 1602) (by decide +kernel)⟩
theorem lw_p91 : lw_okq (⟨"GooseBorderModel", "areSeen", "(II)Z"⟩, 44) := ⟨⟨by decide +kernel, by decide +kernel⟩, List.mem_of_getElem? (i := 1119) (by decide +kernel), List.mem_of_getElem? (i := 1609) (by decide +kernel), List.mem_of_getElem? (i := 1610) (by decide +kernel)⟩
theorem lw_p92 : lw_okq (⟨"GooseBorderModel", "tries", "()V"⟩, 44) := ⟨⟨by decide +kernel, by decide +kernel⟩, List.mem_of_getElem? (i := 1119) (by decide +kernel), List.mem_of_getElem? (i := 1614) (by decide +kernel), List.mem_of_getElem? (i := 1615) (by decide +kernel)⟩
theorem lw_p93 : lw_okq (⟨"GooseBorderModel", "opens", "()V"⟩, 44) := ⟨⟨by decide +kernel, by decide +kernel⟩, List.mem_of_getElem? (i := 1119) (by decide +kernel), List.mem_of_getElem? (i := 1618) (by decide +kernel), List.mem_of_getElem? (i := 1619) (by decide +kernel)⟩
theorem lw_p94 : lw_okq (⟨"GooseBorderModel", "counts", "()V"⟩, 44) := ⟨⟨by decide +kernel, by decide +kernel⟩, List.mem_of_getElem? (i := 1119) (by decide +kernel), List.mem_of_getElem? (i := 1622) (by decide +kernel), List.mem_of_getElem? (i := 1623) (by decide +kernel)⟩
theorem lw_p95 : lw_okq (⟨"GooseBorderModel", "isWhole", "()Z"⟩, 44) := ⟨⟨by decide +kernel, by decide +kernel⟩, List.mem_of_getElem? (i := 1119) (by decide +kernel), List.mem_of_getElem? (i := 1626) (by decide +kernel), List.mem_of_getElem? (i := 1627) (by decide +kernel)⟩
def lw_privs_6 : List (MethodName × Nat) := [(⟨"GooseBorderModel", "firstMarks", "(II)I"⟩, 44), (⟨"GooseBorderModel", "codes", "()I"⟩, 44), (⟨"GooseBorderModel", "worthOf", "(IZ)I"⟩, 44), (⟨"GooseBorderModel", "sums", "(I)V"⟩, 44), (⟨"GooseBorderModel", "payOf", "(I)I"⟩, 44), (⟨"GooseBorderModel", "figure", "(I)I"⟩, 44), (⟨"GooseBorderModel", "bestPath", "(I)I"⟩, 44), (⟨"GooseBorderModel", "lamePay", "(IZ)I"⟩, 44), (⟨"GooseBorderModel", "isRest", "(I)Z"⟩, 44), (⟨"GooseBorderModel", "takeOf", "(II)I"⟩, 44), (⟨"GooseBorderModel", "seenOf", "(II)I"⟩, 44), (⟨"GooseBorderModel", "areSeen", "(II)Z"⟩, 44), (⟨"GooseBorderModel", "tries", "()V"⟩, 44), (⟨"GooseBorderModel", "opens", "()V"⟩, 44), (⟨"GooseBorderModel", "counts", "()V"⟩, 44), (⟨"GooseBorderModel", "isWhole", "()Z"⟩, 44)]
theorem lw_r6 : ∀ q ∈ lw_privs_6, lw_okq q := List.forall_mem_cons.mpr ⟨lw_p80, List.forall_mem_cons.mpr ⟨lw_p81, List.forall_mem_cons.mpr ⟨lw_p82, List.forall_mem_cons.mpr ⟨lw_p83, List.forall_mem_cons.mpr ⟨lw_p84, List.forall_mem_cons.mpr ⟨lw_p85, List.forall_mem_cons.mpr ⟨lw_p86, List.forall_mem_cons.mpr ⟨lw_p87, List.forall_mem_cons.mpr ⟨lw_p88, List.forall_mem_cons.mpr ⟨lw_p89, List.forall_mem_cons.mpr ⟨lw_p90, List.forall_mem_cons.mpr ⟨lw_p91, List.forall_mem_cons.mpr ⟨lw_p92, List.forall_mem_cons.mpr ⟨lw_p93, List.forall_mem_cons.mpr ⟨lw_p94, List.forall_mem_cons.mpr ⟨lw_p95, fun _ h => absurd h List.not_mem_nil⟩⟩⟩⟩⟩⟩⟩⟩⟩⟩⟩⟩⟩⟩⟩⟩
theorem lw_p96 : lw_okq (⟨"GooseBorderModel", "isNext", "(I)Z"⟩, 44) := ⟨⟨by decide +kernel, by decide +kernel⟩, List.mem_of_getElem? (i := 1119) (by decide +kernel), List.mem_of_getElem? (i := 1630) (by decide +kernel), List.mem_of_getElem? (i := 1631) (by decide +kernel)⟩
theorem lw_p97 : lw_okq (⟨"GooseBorderModel", "toe", "()I"⟩, 44) := ⟨⟨by decide +kernel, by decide +kernel⟩, List.mem_of_getElem? (i := 1119) (by decide +kernel), List.mem_of_getElem? (i := 1638) (by decide +kernel), List.mem_of_getElem? (i := 1639) (by decide +kernel)⟩
theorem lw_p98 : lw_okq (⟨"GooseBorderModel", "draws", "()V"⟩, 44) := ⟨⟨by decide +kernel, by decide +kernel⟩, List.mem_of_getElem? (i := 1119) (by decide +kernel), List.mem_of_getElem? (i := 1654) (by decide +kernel), List.mem_of_getElem? (i := 1655) (by decide +kernel)⟩
theorem lw_p99 : lw_okq (⟨"GooseBorderModel", "below", "(I)I"⟩, 44) := ⟨⟨by decide +kernel, by decide +kernel⟩, List.mem_of_getElem? (i := 1119) (by decide +kernel), List.mem_of_getElem? (i := 1658) (by decide +kernel), List.mem_of_getElem? (i := 1659) (by decide +kernel)⟩
theorem lw_p100 : lw_okq (⟨"GooseBorderModel", "apartWithout", "(I)I"⟩, 44) := ⟨⟨by decide +kernel, by decide +kernel⟩, List.mem_of_getElem? (i := 1119) (by decide +kernel), List.mem_of_getElem? (i := 1690) (by decide +kernel), List.mem_of_getElem? (i := 1691) (by decide +kernel)⟩
theorem lw_p101 : lw_okq (⟨"GooseBorderModel", "swaps", "(I)V"⟩, 44) := ⟨⟨by decide +kernel, by decide +kernel⟩, List.mem_of_getElem? (i := 1119) (by decide +kernel), List.mem_of_getElem? (i := 1702) (by decide +kernel), List.mem_of_getElem? (i := 1703) (by decide +kernel)⟩
theorem lw_p102 : lw_okq (⟨"GooseBorderModel", "isPut", "(I)Z"⟩, 44) := ⟨⟨by decide +kernel, by decide +kernel⟩, List.mem_of_getElem? (i := 1119) (by decide +kernel), List.mem_of_getElem? (i := 1710) (by decide +kernel), List.mem_of_getElem? (i := 1711) (by decide +kernel)⟩
def lw_privs_7 : List (MethodName × Nat) := [(⟨"GooseBorderModel", "isNext", "(I)Z"⟩, 44), (⟨"GooseBorderModel", "toe", "()I"⟩, 44), (⟨"GooseBorderModel", "draws", "()V"⟩, 44), (⟨"GooseBorderModel", "below", "(I)I"⟩, 44), (⟨"GooseBorderModel", "apartWithout", "(I)I"⟩, 44), (⟨"GooseBorderModel", "swaps", "(I)V"⟩, 44), (⟨"GooseBorderModel", "isPut", "(I)Z"⟩, 44)]
theorem lw_r7 : ∀ q ∈ lw_privs_7, lw_okq q := List.forall_mem_cons.mpr ⟨lw_p96, List.forall_mem_cons.mpr ⟨lw_p97, List.forall_mem_cons.mpr ⟨lw_p98, List.forall_mem_cons.mpr ⟨lw_p99, List.forall_mem_cons.mpr ⟨lw_p100, List.forall_mem_cons.mpr ⟨lw_p101, List.forall_mem_cons.mpr ⟨lw_p102, fun _ h => absurd h List.not_mem_nil⟩⟩⟩⟩⟩⟩⟩
def lw_privs : List (MethodName × Nat) := lw_privs_1 ++ (lw_privs_2 ++ (lw_privs_3 ++ (lw_privs_4 ++ (lw_privs_5 ++ (lw_privs_6 ++ (lw_privs_7))))))
def lw_tbl : List Cond := k2_sels lw_privs ++ tables_1
theorem lw_privs_ok : ∀ q ∈ lw_privs, lw_okq q := by
  show ∀ q ∈ lw_privs_1 ++ (lw_privs_2 ++ (lw_privs_3 ++ (lw_privs_4 ++ (lw_privs_5 ++ (lw_privs_6 ++ (lw_privs_7)))))), lw_okq q
  exact List.forall_mem_append.mpr ⟨lw_r1, List.forall_mem_append.mpr ⟨lw_r2, List.forall_mem_append.mpr ⟨lw_r3, List.forall_mem_append.mpr ⟨lw_r4, List.forall_mem_append.mpr ⟨lw_r5, List.forall_mem_append.mpr ⟨lw_r6, lw_r7⟩⟩⟩⟩⟩⟩

/-! the words that stay: all of the tables that a call may carry on -/
def gb_wA : List Cond := lw_tbl.filter goodWord
theorem gb_wA_tbl : ∀ w ∈ gb_wA, w ∈ lw_tbl := fun _ h => (List.mem_filter.mp h).1
theorem gb_good {big : List Cond} (hb : ∀ w ∈ gb_wA, w ∈ big) : GoodIn big gb_wA := fun w h => ⟨hb w h, good_of_word (List.mem_filter.mp h).2⟩
theorem gb_goodc {big : List Cond} {c : Cond} (hb : ∀ w ∈ gb_wA, w ∈ big) (hc : c ∈ gb_wA) : GoodIn big (c :: gb_wA) := fun w h => (List.mem_cons.mp h).elim (fun e => by rw [e]; exact gb_good hb c hc) (fun h => gb_good hb w h)
theorem gb_tb {w : Cond} (h : w ∈ tables_1) (hg : goodWord w = true) : w ∈ gb_wA := List.mem_filter.mpr ⟨List.mem_append_right _ h, hg⟩
theorem gb_sl {w : Cond} (h : w ∈ k2_sels lw_privs) (hg : goodWord w = true) : w ∈ gb_wA := List.mem_filter.mpr ⟨List.mem_append_left _ h, hg⟩
theorem gb_tt1 {i : Nat} {w : Cond} (h : tables_1_1[i]? = some w) : w ∈ tables_1 := List.mem_append_left _ (List.mem_of_getElem? h)
theorem gb_t1 {w : Cond} (i : Nat) (h : tables_1_1[i]? = some w) (hg : goodWord w = true) : w ∈ gb_wA := gb_tb (gb_tt1 h) hg
theorem gb_tt2 {i : Nat} {w : Cond} (h : tables_1_2[i]? = some w) : w ∈ tables_1 := List.mem_append_right _ (List.mem_append_left _ (List.mem_of_getElem? h))
theorem gb_t2 {w : Cond} (i : Nat) (h : tables_1_2[i]? = some w) (hg : goodWord w = true) : w ∈ gb_wA := gb_tb (gb_tt2 h) hg
theorem gb_tt3 {i : Nat} {w : Cond} (h : tables_1_3[i]? = some w) : w ∈ tables_1 := List.mem_append_right _ (List.mem_append_right _ (List.mem_append_left _ (List.mem_of_getElem? h)))
theorem gb_t3 {w : Cond} (i : Nat) (h : tables_1_3[i]? = some w) (hg : goodWord w = true) : w ∈ gb_wA := gb_tb (gb_tt3 h) hg
theorem gb_tt4 {i : Nat} {w : Cond} (h : tables_1_4[i]? = some w) : w ∈ tables_1 := List.mem_append_right _ (List.mem_append_right _ (List.mem_append_right _ (List.mem_append_left _ (List.mem_of_getElem? h))))
theorem gb_t4 {w : Cond} (i : Nat) (h : tables_1_4[i]? = some w) (hg : goodWord w = true) : w ∈ gb_wA := gb_tb (gb_tt4 h) hg
theorem gb_tt5 {i : Nat} {w : Cond} (h : tables_1_5[i]? = some w) : w ∈ tables_1 := List.mem_append_right _ (List.mem_append_right _ (List.mem_append_right _ (List.mem_append_right _ (List.mem_append_left _ (List.mem_of_getElem? h)))))
theorem gb_t5 {w : Cond} (i : Nat) (h : tables_1_5[i]? = some w) (hg : goodWord w = true) : w ∈ gb_wA := gb_tb (gb_tt5 h) hg
theorem gb_tt6 {i : Nat} {w : Cond} (h : tables_1_6[i]? = some w) : w ∈ tables_1 := List.mem_append_right _ (List.mem_append_right _ (List.mem_append_right _ (List.mem_append_right _ (List.mem_append_right _ (List.mem_append_left _ (List.mem_of_getElem? h))))))
theorem gb_t6 {w : Cond} (i : Nat) (h : tables_1_6[i]? = some w) (hg : goodWord w = true) : w ∈ gb_wA := gb_tb (gb_tt6 h) hg
theorem gb_tt7 {i : Nat} {w : Cond} (h : tables_1_7[i]? = some w) : w ∈ tables_1 := List.mem_append_right _ (List.mem_append_right _ (List.mem_append_right _ (List.mem_append_right _ (List.mem_append_right _ (List.mem_append_right _ (List.mem_append_left _ (List.mem_of_getElem? h)))))))
theorem gb_t7 {w : Cond} (i : Nat) (h : tables_1_7[i]? = some w) (hg : goodWord w = true) : w ∈ gb_wA := gb_tb (gb_tt7 h) hg
theorem gb_tt8 {i : Nat} {w : Cond} (h : tables_1_8[i]? = some w) : w ∈ tables_1 := List.mem_append_right _ (List.mem_append_right _ (List.mem_append_right _ (List.mem_append_right _ (List.mem_append_right _ (List.mem_append_right _ (List.mem_append_right _ (List.mem_of_getElem? h)))))))
theorem gb_t8 {w : Cond} (i : Nat) (h : tables_1_8[i]? = some w) (hg : goodWord w = true) : w ∈ gb_wA := gb_tb (gb_tt8 h) hg
theorem gb_s1 {q : MethodName × Nat} (i : Nat) (h : lw_privs_1[i]? = some q) (hg : goodWord (Cond.selects q.1.cls q.1 q.1) = true) : Cond.selects q.1.cls q.1 q.1 ∈ gb_wA := gb_sl (List.mem_map.mpr ⟨q, List.mem_append_left _ (List.mem_of_getElem? h), rfl⟩) hg
theorem gb_s2 {q : MethodName × Nat} (i : Nat) (h : lw_privs_2[i]? = some q) (hg : goodWord (Cond.selects q.1.cls q.1 q.1) = true) : Cond.selects q.1.cls q.1 q.1 ∈ gb_wA := gb_sl (List.mem_map.mpr ⟨q, List.mem_append_right _ (List.mem_append_left _ (List.mem_of_getElem? h)), rfl⟩) hg
theorem gb_s3 {q : MethodName × Nat} (i : Nat) (h : lw_privs_3[i]? = some q) (hg : goodWord (Cond.selects q.1.cls q.1 q.1) = true) : Cond.selects q.1.cls q.1 q.1 ∈ gb_wA := gb_sl (List.mem_map.mpr ⟨q, List.mem_append_right _ (List.mem_append_right _ (List.mem_append_left _ (List.mem_of_getElem? h))), rfl⟩) hg
theorem gb_s4 {q : MethodName × Nat} (i : Nat) (h : lw_privs_4[i]? = some q) (hg : goodWord (Cond.selects q.1.cls q.1 q.1) = true) : Cond.selects q.1.cls q.1 q.1 ∈ gb_wA := gb_sl (List.mem_map.mpr ⟨q, List.mem_append_right _ (List.mem_append_right _ (List.mem_append_right _ (List.mem_append_left _ (List.mem_of_getElem? h)))), rfl⟩) hg
theorem gb_s5 {q : MethodName × Nat} (i : Nat) (h : lw_privs_5[i]? = some q) (hg : goodWord (Cond.selects q.1.cls q.1 q.1) = true) : Cond.selects q.1.cls q.1 q.1 ∈ gb_wA := gb_sl (List.mem_map.mpr ⟨q, List.mem_append_right _ (List.mem_append_right _ (List.mem_append_right _ (List.mem_append_right _ (List.mem_append_left _ (List.mem_of_getElem? h))))), rfl⟩) hg
theorem gb_s6 {q : MethodName × Nat} (i : Nat) (h : lw_privs_6[i]? = some q) (hg : goodWord (Cond.selects q.1.cls q.1 q.1) = true) : Cond.selects q.1.cls q.1 q.1 ∈ gb_wA := gb_sl (List.mem_map.mpr ⟨q, List.mem_append_right _ (List.mem_append_right _ (List.mem_append_right _ (List.mem_append_right _ (List.mem_append_right _ (List.mem_append_left _ (List.mem_of_getElem? h)))))), rfl⟩) hg
theorem gb_s7 {q : MethodName × Nat} (i : Nat) (h : lw_privs_7[i]? = some q) (hg : goodWord (Cond.selects q.1.cls q.1 q.1) = true) : Cond.selects q.1.cls q.1 q.1 ∈ gb_wA := gb_sl (List.mem_map.mpr ⟨q, List.mem_append_right _ (List.mem_append_right _ (List.mem_append_right _ (List.mem_append_right _ (List.mem_append_right _ (List.mem_append_right _ (List.mem_of_getElem? h)))))), rfl⟩) hg
end
section
/-! BLOCKS: cells that lie one behind another from an address on; rows that know the heap's size -/
def gb_wl : Nat → List va_E → va_W
  | _, [] => []
  | b, e :: r => (b, e) :: gb_wl (b + 1) r
theorem gb_get : ∀ (cs : List va_E) (b k : Nat), (gb_wl b cs)[k]? = (cs[k]?).map (fun e => (b + k, e))
  | [], _, _ => by simp [gb_wl]
  | e :: r, b, 0 => by simp [gb_wl]
  | e :: r, b, k + 1 => by
    rw [show gb_wl b (e :: r) = (b, e) :: gb_wl (b + 1) r from rfl, List.getElem?_cons_succ, List.getElem?_cons_succ, gb_get r (b + 1) k, show b + 1 + k = b + (k + 1) by omega]
theorem gb_at {cs : List va_E} {k : Nat} {e : va_E} (b : Nat) (h : cs[k]? = some e) : (gb_wl b cs)[k]? = some (b + k, e) := by
  rw [gb_get, h]
  rfl
theorem gb_of {cs : List va_E} {b k : Nat} {q : Nat × va_E} (h : (gb_wl b cs)[k]? = some q) : q.1 = b + k ∧ cs[k]? = some q.2 := by
  rw [gb_get] at h
  cases hc : cs[k]? with
  | none => rw [hc] at h; cases h
  | some e => rw [hc] at h; cases h; exact ⟨rfl, rfl⟩
theorem gb_set : ∀ (cs : List va_E) (b k : Nat) (e : va_E), (gb_wl b cs).set k (b + k, e) = gb_wl b (cs.set k e)
  | [], _, _, _ => by simp [gb_wl]
  | e0 :: r, b, 0, e => by simp [gb_wl]
  | e0 :: r, b, k + 1, e => by
    rw [show gb_wl b (e0 :: r) = (b, e0) :: gb_wl (b + 1) r from rfl, List.set_cons_succ, List.set_cons_succ, show b + (k + 1) = b + 1 + k by omega, gb_set r (b + 1) k e]
    rfl
theorem gb_app : ∀ (cs es : List va_E) (b : Nat), gb_wl b (cs ++ es) = gb_wl b cs ++ gb_wl (b + cs.length) es
  | [], es, b => by simp [gb_wl]
  | e :: r, es, b => by
    rw [List.cons_append, show gb_wl b (e :: (r ++ es)) = (b, e) :: gb_wl (b + 1) (r ++ es) from rfl, gb_app r es (b + 1), show gb_wl b (e :: r) = (b, e) :: gb_wl (b + 1) r from rfl, List.cons_append, List.length_cons, show b + 1 + r.length = b + (r.length + 1) by omega]
theorem gb_D {A : Nat → Prop} {b : Nat} {cs : List va_E} (h : ∀ k, k < cs.length → A (b + k)) : va_D A (gb_wl b cs) :=
  ⟨fun i j p q hi hj e => by have h1 := (gb_of hi).1; have h2 := (gb_of hj).1; omega, fun k q hk => by have h1 := gb_of hk; rw [h1.1]; exact h k (List.getElem?_eq_some_iff.mp h1.2).1⟩
/-- a block stays where the heap stays -/
theorem gb_kept {D : va_G} {cl : List vw_C} {b : Nat} {cs : List va_E} {H H1 : Heap} (h : va_P D cl (gb_wl b cs) H) (hq : ∀ q : Nat, b ≤ q → q < b + cs.length → H1[q]? = H[q]?) : va_P D cl (gb_wl b cs) H1 :=
  h.kept fun k q hk => by have h1 := gb_of hk; have h2 := (List.getElem?_eq_some_iff.mp h1.2).1; exact hq _ (by omega) (by omega)
section GBR
variable {p : Program} {l : Launch} {e : Env} {R : Room} {s : State} {m : MethodId} {args : Array Value} {below : List Frame} {meth : Method} {c : Code} {H : Heap} {locs : List Loc} {cells slots : Nat} {Q : State → Prop}
variable {cc : ByteArray} {pc : Nat} {ls : Array Slot} {rest : List Value} {D : va_G} {cl : List vw_C} {A : Nat → Prop} {tys : List (ClassId × FieldType)} {H0 : Heap} {b z : Nat} {cs : List va_E}
theorem gb_put (hexec : p.tables.exec = Jvm.exec) (hb : c.code = cc) {own ref C : String} {T : u_T} {N ci index : Nat} {Ts : List Cond} (hts : ∀ w ∈ Ts, w.before args s = true) (hin : ∀ w ∈ u_ws C T N, w ∈ Ts) (ty0 : Nat → FieldType) (hty : ∀ k, k < N → parseFieldDescriptor (T k).2.2.1 = some (ty0 k)) (hnm : ∀ a, a < N → ∀ b, b < N → a ≠ b → (T a).2.1 ≠ (T b).2.1) (hown : s.vm.findClass own = some m.cls) (hK : va_K D cl tys s) (hP : va_P D cl (gb_wl b cs) H) (hAb : ∀ k, k < cs.length → A (b + k)) (hS0 : va_S A H0 H locs) (hz : H.size = z) (q0 : Nat) {fs : List Value} (he : cs[q0]? = some (.inr (ci, fs))) (hc : cl[ci]? = some (C, T, N)) (k : Nat) (hk : k < N) (hlink : (Cond.fieldLink own index ref (T k).2.1 (T k).2.2.1).before args s = true) (hsame : ∀ x, s.fieldFound? (T k).1 (T k).2.1 (T k).2.2.1 = some x → s.fieldFound? ref (T k).2.1 (T k).2.2.1 = some x) (hfin : (T k).2.2.2 = false) {ty : FieldType} {v : Value} (hd : parseFieldDescriptor (T k).2.2.1 = some ty) (hn : narrow ty v = v) (hfit : fits ty v = true) (hl : k < fs.length)
    (hdg : decode cc pc = .ok (.putfield index, 3)) (kk : ∀ (H1 : Heap) (locs1 : List Loc), va_P D cl (gb_wl b (cs.set q0 (.inr (ci, fs.set k v)))) H1 → H1.size = z → va_S A H0 H1 locs1 → W p l e R s m args below meth c H1 locs1 cells slots Q (F0 m (pc + 3) ls rest)) : W p l e R s m args below meth c H locs cells slots Q (F0 m pc ls (v :: .ref (b + q0) :: rest)) := by
  have hD := gb_D hAb
  have he2 := gb_at b he
  have hap := va_apart (own := own) hts hin ty0 hty hnm hK hc
  obtain ⟨r, h1, cell, q1, q2, q3, q4⟩ := hP q0 _ he2
  have hr : r = (C, T, N) := Option.some.inj (h1.symm.trans hc)
  subst hr
  obtain ⟨hS, hfc, kC, hkC, hkind⟩ := hK.1 ci _ hc
  obtain ⟨cf, kf, fi, f, hi, hsl⟩ := hS k hk
  have hlay := hts _ (hin _ (u_in_lay hk))
  unfold u_lay at hlay
  rw [if_neg (by rw [hfin]; decide)] at hlay
  have hst := (u_facts hfc hkC (u_lays hts hin hk) hi).1
  have h6 := u_store hfc hkC hkind hlay hi hd hn hfit
  refine W.putK hexec hb (f := f) ⟨hown, hlink, ⟨_, _, _, hsame _ hi⟩, hst⟩ (by rw [q2]; exact h6) q1 q3 (by rw [hsl]; exact k2_hasslot (q4 k hk)) rfl rfl hdg fun H' e1 e2 e3 => ?_
  rw [hsl] at e1 ⊢
  exact kk H' _ (by rw [← gb_set]; exact hP.set hD he2 ⟨_, hc, t_OB.to (V := updV (vp_V fs) k v) ⟨_, e1, q2, q3, t_set q4 hap hk v⟩ (fun j _ => vp_updV_set hl v j)⟩ e3) (e2.trans hz) (hS0.put e2 e3 (hD.2 q0 _ he2))
theorem gb_putF (hexec : p.tables.exec = Jvm.exec) (hb : c.code = cc) {own ref C : String} {T : u_T} {N ci index : Nat} {Ts : List Cond} (hts : ∀ w ∈ Ts, w.before args s = true) (hin : ∀ w ∈ u_ws C T N, w ∈ Ts) (ty0 : Nat → FieldType) (hty : ∀ k, k < N → parseFieldDescriptor (T k).2.2.1 = some (ty0 k)) (hnm : ∀ a, a < N → ∀ b, b < N → a ≠ b → (T a).2.1 ≠ (T b).2.1) (hown : s.vm.findClass own = some m.cls) (hK : va_K D cl tys s) (hP : va_P D cl (gb_wl b cs) H) (hAb : ∀ k, k < cs.length → A (b + k)) (hS0 : va_S A H0 H locs) (hz : H.size = z) (q0 : Nat) {fs : List Value} (he : cs[q0]? = some (.inr (ci, fs))) (hc : cl[ci]? = some (C, T, N)) (k : Nat) (hk : k < N) (hlink : (Cond.fieldLink own index ref (T k).2.1 (T k).2.2.1).before args s = true) (hsame : ∀ x, s.fieldFound? (T k).1 (T k).2.1 (T k).2.2.1 = some x → s.fieldFound? ref (T k).2.1 (T k).2.2.1 = some x) (hfin : (T k).2.2.2 = true) (hin2 : meth.name = "<init>") (hdecl : (T k).1 = own) {ty : FieldType} {v : Value} (hd : parseFieldDescriptor (T k).2.2.1 = some ty) (hn : narrow ty v = v) (hfit : fits ty v = true) (hl : k < fs.length)
    (hdg : decode cc pc = .ok (.putfield index, 3)) (kk : ∀ (H1 : Heap) (locs1 : List Loc), va_P D cl (gb_wl b (cs.set q0 (.inr (ci, fs.set k v)))) H1 → H1.size = z → va_S A H0 H1 locs1 → W p l e R s m args below meth c H1 locs1 cells slots Q (F0 m (pc + 3) ls rest)) : W p l e R s m args below meth c H locs cells slots Q (F0 m pc ls (v :: .ref (b + q0) :: rest)) := by
  have hD := gb_D hAb
  have he2 := gb_at b he
  have hap := va_apart (own := own) hts hin ty0 hty hnm hK hc
  obtain ⟨r, h1, cell, q1, q2, q3, q4⟩ := hP q0 _ he2
  have hr : r = (C, T, N) := Option.some.inj (h1.symm.trans hc)
  subst hr
  obtain ⟨hS, hfc, kC, hkC, hkind⟩ := hK.1 ci _ hc
  obtain ⟨cf, kf, fi, f, hi, hsl⟩ := hS k hk
  have hlay := hts _ (hin _ (u_in_lay hk))
  unfold u_lay at hlay
  rw [if_pos hfin] at hlay
  have hst := (u_facts hfc hkC (u_lays hts hin hk) hi).1
  have hcf : m.cls = cf := by
    obtain ⟨_, _, c', _, _, _, -, -, hf', -, -, -, hown2, -⟩ := Cond.laysFinal_spec hlay
    have e1 : c' = cf := by have := hi.symm.trans hf'; simp at this; exact this.1.symm
    rw [hdecl] at hown2
    rw [← e1]; exact Option.some.inj (hown.symm.trans hown2)
  have h6 := u_fits hfc hkC hkind (Or.inr hlay) hi hd hn hfit
  refine W.putFinK hexec hb hown hlink (hsame _ hi) hst hcf hin2 (by rw [q2]; exact h6) q1 q3 (by rw [hsl]; exact k2_hasslot (q4 k hk)) rfl rfl hdg fun H' e1 e2 e3 => ?_
  rw [hsl] at e1 ⊢
  exact kk H' _ (by rw [← gb_set]; exact hP.set hD he2 ⟨_, hc, t_OB.to (V := updV (vp_V fs) k v) ⟨_, e1, q2, q3, t_set q4 hap hk v⟩ (fun j _ => vp_updV_set hl v j)⟩ e3) (e2.trans hz) (hS0.put e2 e3 (hD.2 q0 _ he2))
theorem gb_iast (hexec : p.tables.exec = Jvm.exec) (hb : c.code = cc) (hK : va_K D cl tys s) (hP : va_P D cl (gb_wl b cs) H) (hAb : ∀ k, k < cs.length → A (b + k)) (hS : va_S A H0 H locs) (hz : H.size = z) (q0 t0 : Nat) {cA : ClassId} {n : Nat} {f : Nat → Int32} (ha : cs[q0]? = some (.inl (cA, n, .inl f))) (ht : tys[t0]? = some (cA, .int)) {i : Int32} {x : Int32} (hin : vp_in i n) (hdg : decode cc pc = .ok (.iastore, 1))
    (kk : ∀ (H1 : Heap) (locs1 : List Loc), va_P D cl (gb_wl b (cs.set q0 (.inl (cA, n, .inl (upd f i.toNatClampNeg x))))) H1 → H1.size = z → va_S A H0 H1 locs1 → W p l e R s m args below meth c H1 locs1 cells slots Q (F0 m (pc + 1) ls rest)) : W p l e R s m args below meth c H locs cells slots Q (F0 m pc ls (.int x :: .int i :: .ref (b + q0) :: rest)) := by
  have hD := gb_D hAb
  have ha2 := gb_at b ha
  refine W.iast hexec hb (hP q0 _ ha2) ((hK.2 t0 _ ht).1 n (fun j => .int (f j))) (fun q => by cases q) (by show ¬ (i < 0 ∨ (arrV _ _ _).slots.size ≤ _); rw [arrV_size]; exact hin) rfl rfl hdg fun H1 e z2 oq => ?_
  refine kk H1 _ ?_ (z2.trans hz) (hS.put z2 oq (hD.2 q0 _ ha2))
  rw [← gb_set]
  refine hP.set hD ha2 ?_ oq
  show H1[b + q0]? = some (vp_cell _ _)
  rw [e]
  rw [vp_cell_i, vp_cell_i, arrV_store]
  congr 2
  funext q
  by_cases hq : q = i.toNatClampNeg
  · subst hq
    simp [updV, upd]
  · simp [updV, upd, hq]
/-- a reference into an array of its class, or of a wider one -/
theorem gb_astq (hexec : p.tables.exec = Jvm.exec) (hb : c.code = cc) (hK : va_K D cl tys s) (hP : va_P D cl (gb_wl b cs) H) (hAb : ∀ k, k < cs.length → A (b + k)) (hS : va_S A H0 H locs) (hz : H.size = z) (q0 t0 qk ci : Nat) {E : String} {cA : ClassId} {r : vw_C} {n : Nat} {vs : List Value} {f : Nat → Option Nat} (ha : cs[q0]? = some (.inl (cA, n, .inr (.inr (.inr (.inr f)))))) (ht : tys[t0]? = some (cA, .object E)) (hca : r.1 = E ∨ va_Nw (.castable r.1 E) s) (hv : cs[qk]? = some (.inr (ci, vs))) (hc : cl[ci]? = some r) {i : Int32} (hin : vp_in i n) (hdg : decode cc pc = .ok (.aastore, 1))
    (kk : ∀ (H1 : Heap) (locs1 : List Loc), va_P D cl (gb_wl b (cs.set q0 (.inl (cA, n, .inr (.inr (.inr (.inr (va_up f i.toNatClampNeg (some (b + qk)))))))))) H1 → H1.size = z → va_S A H0 H1 locs1 → W p l e R s m args below meth c H1 locs1 cells slots Q (F0 m (pc + 1) ls rest)) : W p l e R s m args below meth c H locs cells slots Q (F0 m pc ls (.ref (b + qk) :: .int i :: .ref (b + q0) :: rest)) := by
  have hD := gb_D hAb
  have ha2 := gb_at b ha
  have hlt : i.toNatClampNeg < n := Nat.not_le.mp fun q => hin (Or.inr q)
  have h0 : ¬ i < 0 := fun q => hin (Or.inl q)
  obtain ⟨r', hr', cellV, g1, g2, g3, -⟩ := hP qk _ (gb_at b hv)
  have hcls := (hK.1 ci r hc).2
  obtain ⟨kA, comp, k1, k2, k3, -⟩ := (hK.2 t0 _ ht).2
  obtain ⟨kE, hkE, -⟩ := Vm.findClass_spec k3
  obtain ⟨kC, hkC, -⟩ := hcls.2
  have hasg : s.vm.assignable (D.1 ci) comp = true := by
    rcases hca with hca | hca
    · have hcomp : comp = D.1 ci := Option.some.inj (k3.symm.trans (by rw [← hca]; exact hcls.1))
      rw [hcomp]
      exact va_assign hcls
    · obtain ⟨c0, t1, f1, f2, f3⟩ := Cond.castable_spec (va_Nw.use (A := args) rfl hca)
      cases hcls.1.symm.trans f1
      cases k3.symm.trans f2
      exact f3
  refine W.aast hexec hb (hP q0 _ ha2) (fun q h => by cases h) (fun h => by cases h) k1 k2 rfl hkE ⟨h0, by show _ < (arrV _ _ _).slots.size; rw [arrV_size]; exact hlt⟩ g1 (fun q h => by rw [g3] at h; cases h) (by rw [g2]; exact hkC) (by rw [g2]; exact hasg) rfl rfl hdg fun H1 e z2 oq => ?_
  refine kk H1 _ ?_ (z2.trans hz) (hS.put z2 oq (hD.2 q0 _ ha2))
  rw [← gb_set]
  refine hP.set hD ha2 ?_ oq
  show H1[b + q0]? = some (vp_cell _ _)
  rw [e]
  rw [vp_cell_q, vp_cell_q, arrV_store]
  congr 2
  funext q
  by_cases hq : q = i.toNatClampNeg
  · subst hq
    simp [updV, va_up, va_rf]
  · simp [updV, va_up, hq]
/-- a new object, at the heap's end, which is the block's -/
theorem gb_new (hexec : p.tables.exec = Jvm.exec) (hb : c.code = cc) {own C : String} {T : u_T} {N ci index : Nat} {Ts : List Cond} (hts : ∀ w ∈ Ts, w.before args s = true) (hin : ∀ w ∈ u_ws C T N, w ∈ Ts) (ty : Nat → FieldType) (hty : ∀ k, k < N → parseFieldDescriptor (T k).2.2.1 = some (ty k)) (hown : s.vm.findClass own = some m.cls) (hcl : (Cond.classLink own index C).before args s = true) (hinst : (Cond.instantiable C N).before args s = true) (hini : (Cond.initialized C).before args s = true)
    (hK : va_K D cl tys s) (hP : va_P D cl (gb_wl b cs) H) (hS : va_S A H0 H locs) (n : Nat) (hz : H.size = b + n) (hn : cs.length = n) (hc : cl[ci]? = some (C, T, N)) {fs : List Value} (hfs : ∀ j, j < N → defaultValue (ty j) = vp_V fs j) (hcells : cells + 1 ≤ R.cells) (hslots : slots + N ≤ R.slots) (hdg : decode cc pc = .ok (.new index, 3))
    (kk : ∀ (H1 : Heap), va_P D cl (gb_wl b (cs ++ [.inr (ci, fs)])) H1 → H1.size = b + (n + 1) → va_S A H0 H1 locs →
      W p l e R s m args below meth c H1 locs (cells + 1) (slots + N) Q (F0 m (pc + 3) ls (.ref (b + n) :: rest))) : W p l e R s m args below meth c H locs cells slots Q (F0 m pc ls rest) := by
  have hKn := hK.1 ci _ hc
  refine W.newcK hexec hb hown hcl hinst hini rfl hdg hcells hslots hKn.2.1 hz fun H1 kC hkC e1 z1 o1 => ?_
  have hk : ∀ (k : Nat) (x : Nat × va_E), (gb_wl b cs)[k]? = some x → H1[x.1]? = H[x.1]? := fun k x hx => o1 x.1 (by rw [← hz]; exact (hP k x hx).lt)
  refine kk H1 ?_ (by omega) ⟨Nat.le_trans hS.1 (by omega), fun x h1 h2 => (o1 x (by rw [← hz]; exact Nat.lt_of_lt_of_le h1 hS.1)).trans (hS.2.1 x h1 h2), hS.2.2⟩
  rw [gb_app]
  refine (hP.kept hk).app (fun k x hx => ?_)
  have h9 := gb_of hx
  have hz9 : k < 1 := (List.getElem?_eq_some_iff.mp h9.2).1
  have hk0 : k = 0 := by omega
  subst hk0
  obtain ⟨x1, x2⟩ := x
  obtain ⟨h8, h7⟩ := h9
  cases h7
  have h8 : x1 = b + n := by rw [← hn]; exact h8
  subst h8
  exact ⟨_, hc, (u_born ty hts hin hKn hkC e1 hty).to hfs⟩
/-- a new array of whole numbers, at the heap's end, of the class that the tables have for it -/
theorem gb_newa (hexec : p.tables.exec = Jvm.exec) (hb : c.code = cc) {atype : ArrayType} (harr : (Cond.arrayClass (newarray.typeOf atype)).before args s = true) {ty : FieldType} (hty : newarray.typeOf atype = ty) (hK : va_K D cl tys s) (hP : va_P D cl (gb_wl b cs) H) (hS : va_S A H0 H locs) (n : Nat) (hz : H.size = b + n) (hcn : cs.length = n) (t0 : Nat) {cA : ClassId} (ht : tys[t0]? = some (cA, ty)) (hfc : va_RA s cA ty → s.vm.findClass ("[" ++ ty.toString) = some cA)
    {x : Int32} {N' : Nat} {a0 : vp_A} (ha : ∀ cA : ClassId, vp_cell cA a0 = arrV cA N' (fun _ => defaultValue ty)) (hn : ¬ x < 0) (hN : x.toNatClampNeg = N') (hbytes : N' * componentBytes ty ≤ 536870912) (hcells : cells + 1 ≤ R.cells) (hslots : slots + N' ≤ R.slots) (hdg : decode cc pc = .ok (.newarray atype, 2))
    (kk : ∀ (H1 : Heap), va_P D cl (gb_wl b (cs ++ [.inl (cA, a0)])) H1 → H1.size = b + (n + 1) → va_S A H0 H1 locs →
      W p l e R s m args below meth c H1 locs (cells + 1) (slots + N') Q (F0 m (pc + 2) ls (.ref (b + n) :: rest))) : W p l e R s m args below meth c H locs cells slots Q (F0 m pc ls (.int x :: rest)) := by
  subst hty
  refine va_newaK hexec hb harr rfl hdg rfl hn hN hbytes hcells hslots hz fun H1 cB e1 z1 o1 hAr hNm => ?_
  have hcB : cB = cA := Option.some.inj (hNm.symm.trans (hfc (hK.2 t0 _ ht).2))
  subst hcB
  have hk : ∀ (k : Nat) (x : Nat × va_E), (gb_wl b cs)[k]? = some x → H1[x.1]? = H[x.1]? := fun k x hx => o1 x.1 (by rw [← hz]; exact (hP k x hx).lt)
  refine kk H1 ?_ (by omega) ⟨Nat.le_trans hS.1 (by omega), fun x h1 h2 => (o1 x (by rw [← hz]; exact Nat.lt_of_lt_of_le h1 hS.1)).trans (hS.2.1 x h1 h2), hS.2.2⟩
  rw [gb_app]
  refine (hP.kept hk).app (fun k x hx => ?_)
  have h9 := gb_of hx
  have hz9 : k < 1 := (List.getElem?_eq_some_iff.mp h9.2).1
  have hk0 : k = 0 := by omega
  subst hk0
  obtain ⟨x1, x2⟩ := x
  obtain ⟨h8, h7⟩ := h9
  cases h7
  have h8 : x1 = b + n := by rw [← hcn]; exact h8
  subst h8
  show H1[b + n]? = some (vp_cell _ _)
  rw [ha]
  exact e1
/-- a new array of references, at the heap's end -/
theorem gb_newq (hexec : p.tables.exec = Jvm.exec) (hb : c.code = cc) {own C : String} {index : Nat} (hown : s.vm.findClass own = some m.cls) (hclink : (Cond.classLink own index C).before args s = true) (hover : va_AO C s) (hK : va_K D cl tys s) (hP : va_P D cl (gb_wl b cs) H) (hS : va_S A H0 H locs) (n : Nat) (hz : H.size = b + n) (hcn : cs.length = n) (t0 : Nat) {cA : ClassId} (ht : tys[t0]? = some (cA, .object C))
    {x : Int32} {N' : Nat} (hn : ¬ x < 0) (hN : x.toNatClampNeg = N') (hbytes : N' * 4 ≤ 536870912) (hcells : cells + 1 ≤ R.cells) (hslots : slots + N' ≤ R.slots) (hdg : decode cc pc = .ok (.anewarray index, 3))
    (kk : ∀ (H1 : Heap), va_P D cl (gb_wl b (cs ++ [.inl (cA, N', .inr (.inr (.inr (.inr (fun _ => none)))))])) H1 → H1.size = b + (n + 1) → va_S A H0 H1 locs →
      W p l e R s m args below meth c H1 locs (cells + 1) (slots + N') Q (F0 m (pc + 3) ls (.ref (b + n) :: rest))) : W p l e R s m args below meth c H locs cells slots Q (F0 m pc ls (.int x :: rest)) := by
  subst hN
  refine W.anew hexec hb hown hclink (va_AO.use hover) rfl hdg rfl hn hbytes hcells hslots fun cB kA comp f1 f2 f3 f4 => ?_
  obtain ⟨kA2, comp2, g1, g2, g3, g4⟩ := (hK.2 t0 _ ht).2
  have hcB : cB = cA := Option.some.inj (f1.symm.trans g4)
  subst hcB
  generalize hH1 : H.push ({ cls := cB, slots := Array.replicate x.toNatClampNeg .null, vm := .none } : Cell) = H1
  have z1 : H1.size = H.size + 1 := by rw [← hH1, Array.size_push]
  have e1 : H1[H.size]? = some (arrV cB x.toNatClampNeg (fun _ => .null)) := by rw [← hH1, Array.getElem?_push_size, ← arrV_new]
  have o1 : ∀ q : Nat, q < H.size → H1[q]? = H[q]? := fun q hq => by rw [← hH1, Array.getElem?_push, if_neg (Nat.ne_of_lt hq)]
  have hk : ∀ (k : Nat) (x : Nat × va_E), (gb_wl b cs)[k]? = some x → H1[x.1]? = H[x.1]? := fun k x hx => o1 x.1 ((hP k x hx).lt)
  rw [hz]
  refine kk H1 ?_ (by omega) ⟨Nat.le_trans hS.1 (by omega), fun x h1 h2 => (o1 x (Nat.lt_of_lt_of_le h1 hS.1)).trans (hS.2.1 x h1 h2), hS.2.2⟩
  rw [gb_app]
  refine (hP.kept hk).app (fun k x hx => ?_)
  have h9 := gb_of hx
  have hz9 : k < 1 := (List.getElem?_eq_some_iff.mp h9.2).1
  have hk0 : k = 0 := by omega
  subst hk0
  obtain ⟨x1, x2⟩ := x
  obtain ⟨h8, h7⟩ := h9
  cases h7
  have h8 : x1 = H.size := by rw [hz, ← hcn]; exact h8
  subst h8
  show H1[H.size]? = some (vp_cell _ _)
  rw [vp_cell_q]
  exact e1
end GBR
end
section
def RX0 : String := "GooseBorder$Border"
def TX0 : u_T := fun k => match k with
  | _ => ("GooseBorder$Sheet", "cells", "[I", true)
def tyX0 : Nat → FieldType := fun k => match k with
  | _ => .array .int
abbrev wsX00 : List Cond := u_ws RX0 TX0 1
theorem nmX0 : ∀ a, a < 1 → ∀ b, b < 1 → a ≠ b → (TX0 a).2.1 ≠ (TX0 b).2.1 := by decide +kernel
theorem tyX0_ok : ∀ k, k < 1 → parseFieldDescriptor (TX0 k).2.2.1 = some (tyX0 k) := by decide +kernel
abbrev cX0_init : ByteArray := prog_2_method_1_code
def yX0_init : MethodName := ⟨RX0, "<init>", "()V"⟩
abbrev cX0_clear : ByteArray := prog_2_method_2_code
def yX0_clear : MethodName := ⟨RX0, "clear", "()V"⟩
abbrev cX0_hasRoomFor : ByteArray := prog_2_method_3_code
def yX0_hasRoomFor : MethodName := ⟨RX0, "hasRoomFor", "(I)Z"⟩
abbrev cX0_addLine : ByteArray := prog_2_method_4_code
def yX0_addLine : MethodName := ⟨RX0, "addLine", "(I[I)V"⟩
abbrev cX0_clashes : ByteArray := prog_2_method_5_code
def yX0_clashes : MethodName := ⟨RX0, "clashes", "()Z"⟩
abbrev cX0_paths : ByteArray := prog_2_method_6_code
def yX0_paths : MethodName := ⟨RX0, "paths", "()I"⟩
abbrev cX0_geese : ByteArray := prog_2_method_7_code
def yX0_geese : MethodName := ⟨RX0, "geese", "()I"⟩
abbrev cX0_cap : ByteArray := prog_2_method_8_code
def yX0_cap : MethodName := ⟨RX0, "cap", "()I"⟩
abbrev cX0_hasPath : ByteArray := prog_2_method_9_code
def yX0_hasPath : MethodName := ⟨RX0, "hasPath", "(I)Z"⟩
abbrev cX0_hasGoose : ByteArray := prog_2_method_10_code
def yX0_hasGoose : MethodName := ⟨RX0, "hasGoose", "(I)Z"⟩
abbrev cX0_numberTold : ByteArray := prog_2_method_11_code
def yX0_numberTold : MethodName := ⟨RX0, "numberTold", "(I)I"⟩
abbrev cX0_miles : ByteArray := prog_2_method_12_code
def yX0_miles : MethodName := ⟨RX0, "miles", "(I)I"⟩
abbrev cX0_rate : ByteArray := prog_2_method_13_code
def yX0_rate : MethodName := ⟨RX0, "rate", "(I)I"⟩
abbrev cX0_pad : ByteArray := prog_2_method_14_code
def yX0_pad : MethodName := ⟨RX0, "pad", "(I)I"⟩
abbrev cX0_toes : ByteArray := prog_2_method_15_code
def yX0_toes : MethodName := ⟨RX0, "toes", "(I)I"⟩
abbrev cX0_boots : ByteArray := prog_2_method_16_code
def yX0_boots : MethodName := ⟨RX0, "boots", "(I)I"⟩
abbrev cX0_limps : ByteArray := prog_2_method_17_code
def yX0_limps : MethodName := ⟨RX0, "limps", "(I)Z"⟩
abbrev cX0_worth : ByteArray := prog_2_method_18_code
def yX0_worth : MethodName := ⟨RX0, "worth", "(I)I"⟩
abbrev cX0_worthOf : ByteArray := prog_2_method_19_code
def yX0_worthOf : MethodName := ⟨RX0, "worthOf", "(I)I"⟩
abbrev cX0_marksFirst : ByteArray := prog_2_method_20_code
def yX0_marksFirst : MethodName := ⟨RX0, "marksFirst", "(II)I"⟩
abbrev cX0_marksOver : ByteArray := prog_2_method_21_code
def yX0_marksOver : MethodName := ⟨RX0, "marksOver", "(IIIZ)I"⟩
abbrev cX0_padded : ByteArray := prog_2_method_22_code
def yX0_padded : MethodName := ⟨RX0, "padded", "(II)I"⟩
abbrev cX0_payOf : ByteArray := prog_2_method_23_code
def yX0_payOf : MethodName := ⟨RX0, "payOf", "(II)I"⟩
abbrev cX0_barefoot : ByteArray := prog_2_method_24_code
def yX0_barefoot : MethodName := ⟨RX0, "barefoot", "(I)I"⟩
abbrev cX0_milesThatSpare : ByteArray := prog_2_method_25_code
def yX0_milesThatSpare : MethodName := ⟨RX0, "milesThatSpare", "(II)I"⟩
def RX1 : String := "GooseBorder$Dawn"
def TX1 : u_T := fun k => match k with
  | 0 => ("GooseBorder$Lines", "most", "I", true)
  | 1 => ("GooseBorder$Lines", "numbers", "I", true)
  | 2 => ("GooseBorder$Lines", "firstLine", "I", true)
  | _ => ("GooseBorder$Sheet", "cells", "[I", true)
def tyX1 : Nat → FieldType := fun k => match k with
  | 0 => .int
  | 1 => .int
  | 2 => .int
  | _ => .array .int
abbrev wsX10 : List Cond := u_ws RX1 TX1 4
theorem nmX1 : ∀ a, a < 4 → ∀ b, b < 4 → a ≠ b → (TX1 a).2.1 ≠ (TX1 b).2.1 := by decide +kernel
theorem tyX1_ok : ∀ k, k < 4 → parseFieldDescriptor (TX1 k).2.2.1 = some (tyX1 k) := by decide +kernel
abbrev cX1_init : ByteArray := prog_3_method_1_code
def yX1_init : MethodName := ⟨RX1, "<init>", "()V"⟩
abbrev cX1_clashes : ByteArray := prog_3_method_2_code
def yX1_clashes : MethodName := ⟨RX1, "clashes", "()Z"⟩
abbrev cX1_pathSeen : ByteArray := prog_3_method_3_code
def yX1_pathSeen : MethodName := ⟨RX1, "pathSeen", "(I)I"⟩
abbrev cX1_marksSeen : ByteArray := prog_3_method_4_code
def yX1_marksSeen : MethodName := ⟨RX1, "marksSeen", "(I)I"⟩
abbrev cX1_leftOn : ByteArray := prog_3_method_5_code
def yX1_leftOn : MethodName := ⟨RX1, "leftOn", "(I)I"⟩
def RX2 : String := "GooseBorder$Flocks"
def TX2 : u_T := fun k => match k with
  | 0 => ("GooseBorder$Flocks", "sums", "[I", true)
  | 1 => ("GooseBorder$Flocks", "others", "[I", true)
  | 2 => ("GooseBorder$Flocks", "ways", "[J", false)
  | 3 => ("GooseBorder$Flocks", "next", "[J", false)
  | 4 => ("GooseBorder$Flocks", "sets", "I", false)
  | _ => ("GooseBorder$Flocks", "apart", "I", false)
def tyX2 : Nat → FieldType := fun k => match k with
  | 0 => .array .int
  | 1 => .array .int
  | 2 => .array .long
  | 3 => .array .long
  | 4 => .int
  | _ => .int
abbrev wsX20 : List Cond := u_ws RX2 TX2 6
theorem nmX2 : ∀ a, a < 6 → ∀ b, b < 6 → a ≠ b → (TX2 a).2.1 ≠ (TX2 b).2.1 := by decide +kernel
theorem tyX2_ok : ∀ k, k < 6 → parseFieldDescriptor (TX2 k).2.2.1 = some (tyX2 k) := by decide +kernel
abbrev cX2_init : ByteArray := prog_4_method_1_code
def yX2_init : MethodName := ⟨RX2, "<init>", "()V"⟩
abbrev cX2_sumUp : ByteArray := prog_4_method_2_code
def yX2_sumUp : MethodName := ⟨RX2, "sumUp", "(LGooseBorder$Border;I[I)V"⟩
abbrev cX2_marksOfAny : ByteArray := prog_4_method_3_code
def yX2_marksOfAny : MethodName := ⟨RX2, "marksOfAny", "(LGooseBorder$Border;IIZ)I"⟩
abbrev cX2_evenest : ByteArray := prog_4_method_4_code
def yX2_evenest : MethodName := ⟨RX2, "evenest", "(LGooseBorder$Border;II)I"⟩
abbrev cX2_fewestBackwards : ByteArray := prog_4_method_5_code
def yX2_fewestBackwards : MethodName := ⟨RX2, "fewestBackwards", "(LGooseBorder$Border;II)I"⟩
abbrev cX2_nearest : ByteArray := prog_4_method_6_code
def yX2_nearest : MethodName := ⟨RX2, "nearest", "(LGooseBorder$Border;II)I"⟩
abbrev cX2_thriftiest : ByteArray := prog_4_method_7_code
def yX2_thriftiest : MethodName := ⟨RX2, "thriftiest", "(LGooseBorder$Border;)I"⟩
abbrev cX2_paysAll : ByteArray := prog_4_method_8_code
def yX2_paysAll : MethodName := ⟨RX2, "paysAll", "(LGooseBorder$Border;II)Z"⟩
abbrev cX2_findWays : ByteArray := prog_4_method_9_code
def yX2_findWays : MethodName := ⟨RX2, "findWays", "(LGooseBorder$Border;LGooseBorder$Dawn;II)V"⟩
abbrev cX2_goBy : ByteArray := prog_4_method_10_code
def yX2_goBy : MethodName := ⟨RX2, "goBy", "(II)V"⟩
abbrev cX2_addGoing : ByteArray := prog_4_method_11_code
def yX2_addGoing : MethodName := ⟨RX2, "addGoing", "(I)V"⟩
abbrev cX2_allWays : ByteArray := prog_4_method_12_code
def yX2_allWays : MethodName := ⟨RX2, "allWays", "()J"⟩
abbrev cX2_fewestGone : ByteArray := prog_4_method_13_code
def yX2_fewestGone : MethodName := ⟨RX2, "fewestGone", "()I"⟩
abbrev cX2_mostGone : ByteArray := prog_4_method_14_code
def yX2_mostGone : MethodName := ⟨RX2, "mostGone", "()I"⟩
abbrev cX2_sureOnes : ByteArray := prog_4_method_15_code
def yX2_sureOnes : MethodName := ⟨RX2, "sureOnes", "()I"⟩
abbrev cX2_pathsInAnyWay : ByteArray := prog_4_method_16_code
def yX2_pathsInAnyWay : MethodName := ⟨RX2, "pathsInAnyWay", "(LGooseBorder$Border;LGooseBorder$Dawn;I)I"⟩
def RX3 : String := "GooseBorder$Law"
def TX3 : u_T := fun k => match k with
  | 0 => ("GooseBorder$Lines", "most", "I", true)
  | 1 => ("GooseBorder$Lines", "numbers", "I", true)
  | 2 => ("GooseBorder$Lines", "firstLine", "I", true)
  | _ => ("GooseBorder$Sheet", "cells", "[I", true)
def tyX3 : Nat → FieldType := fun k => match k with
  | 0 => .int
  | 1 => .int
  | 2 => .int
  | _ => .array .int
abbrev wsX30 : List Cond := u_ws RX3 TX3 4
theorem nmX3 : ∀ a, a < 4 → ∀ b, b < 4 → a ≠ b → (TX3 a).2.1 ≠ (TX3 b).2.1 := by decide +kernel
theorem tyX3_ok : ∀ k, k < 4 → parseFieldDescriptor (TX3 k).2.2.1 = some (tyX3 k) := by decide +kernel
abbrev cX3_init : ByteArray := prog_5_method_1_code
def yX3_init : MethodName := ⟨RX3, "<init>", "()V"⟩
abbrev cX3_payFor : ByteArray := prog_5_method_2_code
def yX3_payFor : MethodName := ⟨RX3, "payFor", "(I)I"⟩
def RX4 : String := "GooseBorder$Lines"
def TX4 : u_T := fun k => match k with
  | _ => ("", "", "", false)
def tyX4 : Nat → FieldType := fun k => match k with
  | _ => .int
abbrev wsX40 : List Cond := u_ws RX4 TX4 0
theorem nmX4 : ∀ a, a < 0 → ∀ b, b < 0 → a ≠ b → (TX4 a).2.1 ≠ (TX4 b).2.1 := by decide +kernel
theorem tyX4_ok : ∀ k, k < 0 → parseFieldDescriptor (TX4 k).2.2.1 = some (tyX4 k) := by decide +kernel
abbrev cX4_init : ByteArray := prog_6_method_1_code
def yX4_init : MethodName := ⟨RX4, "<init>", "(III)V"⟩
abbrev cX4_clear : ByteArray := prog_6_method_2_code
def yX4_clear : MethodName := ⟨RX4, "clear", "()V"⟩
abbrev cX4_hasRoomFor : ByteArray := prog_6_method_3_code
def yX4_hasRoomFor : MethodName := ⟨RX4, "hasRoomFor", "(I)Z"⟩
abbrev cX4_addLine : ByteArray := prog_6_method_4_code
def yX4_addLine : MethodName := ⟨RX4, "addLine", "(I[I)V"⟩
abbrev cX4_clashes : ByteArray := prog_6_method_5_code
def yX4_clashes : MethodName := ⟨RX4, "clashes", "()Z"⟩
abbrev cX4_size : ByteArray := prog_6_method_6_code
def yX4_size : MethodName := ⟨RX4, "size", "()I"⟩
abbrev cX4_kind : ByteArray := prog_6_method_7_code
def yX4_kind : MethodName := ⟨RX4, "kind", "(I)I"⟩
abbrev cX4_cell : ByteArray := prog_6_method_8_code
def yX4_cell : MethodName := ⟨RX4, "cell", "(II)I"⟩
def RX5 : String := "GooseBorder$Night"
def TX5 : u_T := fun k => match k with
  | 0 => ("GooseBorder$Lines", "most", "I", true)
  | 1 => ("GooseBorder$Lines", "numbers", "I", true)
  | 2 => ("GooseBorder$Lines", "firstLine", "I", true)
  | _ => ("GooseBorder$Sheet", "cells", "[I", true)
def tyX5 : Nat → FieldType := fun k => match k with
  | 0 => .int
  | 1 => .int
  | 2 => .int
  | _ => .array .int
abbrev wsX50 : List Cond := u_ws RX5 TX5 4
theorem nmX5 : ∀ a, a < 4 → ∀ b, b < 4 → a ≠ b → (TX5 a).2.1 ≠ (TX5 b).2.1 := by decide +kernel
theorem tyX5_ok : ∀ k, k < 4 → parseFieldDescriptor (TX5 k).2.2.1 = some (tyX5 k) := by decide +kernel
abbrev cX5_init : ByteArray := prog_7_method_1_code
def yX5_init : MethodName := ⟨RX5, "<init>", "()V"⟩
abbrev cX5_changeWithNext : ByteArray := prog_7_method_2_code
def yX5_changeWithNext : MethodName := ⟨RX5, "changeWithNext", "(I)V"⟩
def RX6 : String := "GooseBorder$Play"
def TX6 : u_T := fun k => match k with
  | 0 => ("GooseBorder$Play", "border", "LGooseBorder$Border;", false)
  | 1 => ("GooseBorder$Play", "where", "[I", true)
  | 2 => ("GooseBorder$Play", "boots", "[I", true)
  | 3 => ("GooseBorder$Play", "trail", "[I", true)
  | 4 => ("GooseBorder$Play", "latest", "[I", true)
  | 5 => ("GooseBorder$Play", "marks", "[I", true)
  | 6 => ("GooseBorder$Play", "exports", "[I", true)
  | 7 => ("GooseBorder$Play", "washed", "[I", true)
  | 8 => ("GooseBorder$Play", "gone", "[I", true)
  | 9 => ("GooseBorder$Play", "recast", "I", false)
  | 10 => ("GooseBorder$Play", "frost", "Z", false)
  | _ => ("GooseBorder$Play", "done", "I", false)
def tyX6 : Nat → FieldType := fun k => match k with
  | 0 => .object "GooseBorder$Border"
  | 1 => .array .int
  | 2 => .array .int
  | 3 => .array .int
  | 4 => .array .int
  | 5 => .array .int
  | 6 => .array .int
  | 7 => .array .int
  | 8 => .array .int
  | 9 => .int
  | 10 => .boolean
  | _ => .int
abbrev wsX60 : List Cond := u_ws RX6 TX6 12
theorem nmX6 : ∀ a, a < 12 → ∀ b, b < 12 → a ≠ b → (TX6 a).2.1 ≠ (TX6 b).2.1 := by decide +kernel
theorem tyX6_ok : ∀ k, k < 12 → parseFieldDescriptor (TX6 k).2.2.1 = some (tyX6 k) := by decide +kernel
abbrev cX6_init : ByteArray := prog_8_method_1_code
def yX6_init : MethodName := ⟨RX6, "<init>", "()V"⟩
abbrev cX6_begin : ByteArray := prog_8_method_2_code
def yX6_begin : MethodName := ⟨RX6, "begin", "(LGooseBorder$Border;)V"⟩
abbrev cX6_run : ByteArray := prog_8_method_3_code
def yX6_run : MethodName := ⟨RX6, "run", "(LGooseBorder$Border;LGooseBorder$Night;II)V"⟩
abbrev cX6_canBe : ByteArray := prog_8_method_4_code
def yX6_canBe : MethodName := ⟨RX6, "canBe", "(LGooseBorder$Night;I)Z"⟩
abbrev cX6_stands : ByteArray := prog_8_method_5_code
def yX6_stands : MethodName := ⟨RX6, "stands", "(II)Z"⟩
abbrev cX6_doDeed : ByteArray := prog_8_method_6_code
def yX6_doDeed : MethodName := ⟨RX6, "doDeed", "(LGooseBorder$Night;IZ)V"⟩
abbrev cX6_go : ByteArray := prog_8_method_7_code
def yX6_go : MethodName := ⟨RX6, "go", "(III[I)V"⟩
abbrev cX6_rainDown : ByteArray := prog_8_method_8_code
def yX6_rainDown : MethodName := ⟨RX6, "rainDown", "(I)V"⟩
abbrev cX6_eat : ByteArray := prog_8_method_9_code
def yX6_eat : MethodName := ⟨RX6, "eat", "(I)V"⟩
abbrev cX6_latestGoer : ByteArray := prog_8_method_10_code
def yX6_latestGoer : MethodName := ⟨RX6, "latestGoer", "(I)I"⟩
abbrev cX6_tally : ByteArray := prog_8_method_11_code
def yX6_tally : MethodName := ⟨RX6, "tally", "(I)I"⟩
abbrev cX6_allTallies : ByteArray := prog_8_method_12_code
def yX6_allTallies : MethodName := ⟨RX6, "allTallies", "()I"⟩
abbrev cX6_allPay : ByteArray := prog_8_method_13_code
def yX6_allPay : MethodName := ⟨RX6, "allPay", "()I"⟩
abbrev cX6_whoIs : ByteArray := prog_8_method_14_code
def yX6_whoIs : MethodName := ⟨RX6, "whoIs", "(I)I"⟩
abbrev cX6_worn : ByteArray := prog_8_method_15_code
def yX6_worn : MethodName := ⟨RX6, "worn", "()I"⟩
abbrev cX6_payBy : ByteArray := prog_8_method_16_code
def yX6_payBy : MethodName := ⟨RX6, "payBy", "(I)I"⟩
abbrev cX6_payTold : ByteArray := prog_8_method_17_code
def yX6_payTold : MethodName := ⟨RX6, "payTold", "(II)I"⟩
abbrev cX6_taken : ByteArray := prog_8_method_18_code
def yX6_taken : MethodName := ⟨RX6, "taken", "(II)I"⟩
abbrev cX6_isAtRest : ByteArray := prog_8_method_19_code
def yX6_isAtRest : MethodName := ⟨RX6, "isAtRest", "(I)Z"⟩
def RX7 : String := "GooseBorder$Reader"
def TX7 : u_T := fun k => match k with
  | 0 => ("GooseBorder$Reader", "numbers", "[I", true)
  | 1 => ("GooseBorder$Reader", "tape", "[B", false)
  | 2 => ("GooseBorder$Reader", "length", "I", false)
  | 3 => ("GooseBorder$Reader", "at", "I", false)
  | 4 => ("GooseBorder$Reader", "fault", "I", false)
  | _ => ("GooseBorder$Reader", "place", "I", false)
def tyX7 : Nat → FieldType := fun k => match k with
  | 0 => .array .int
  | 1 => .array .byte
  | 2 => .int
  | 3 => .int
  | 4 => .int
  | _ => .int
abbrev wsX70 : List Cond := u_ws RX7 TX7 6
theorem nmX7 : ∀ a, a < 6 → ∀ b, b < 6 → a ≠ b → (TX7 a).2.1 ≠ (TX7 b).2.1 := by decide +kernel
theorem tyX7_ok : ∀ k, k < 6 → parseFieldDescriptor (TX7 k).2.2.1 = some (tyX7 k) := by decide +kernel
abbrev cX7_init : ByteArray := prog_9_method_1_code
def yX7_init : MethodName := ⟨RX7, "<init>", "()V"⟩
abbrev cX7_read : ByteArray := prog_9_method_2_code
def yX7_read : MethodName := ⟨RX7, "read", "([BIILGooseBorder$Sheet;)V"⟩
abbrev cX7_readLine : ByteArray := prog_9_method_3_code
def yX7_readLine : MethodName := ⟨RX7, "readLine", "(ILGooseBorder$Sheet;)Z"⟩
abbrev cX7_takeWord : ByteArray := prog_9_method_4_code
def yX7_takeWord : MethodName := ⟨RX7, "takeWord", "(I)I"⟩
abbrev cX7_isWord : ByteArray := prog_9_method_5_code
def yX7_isWord : MethodName := ⟨RX7, "isWord", "(Ljava/lang/String;I)Z"⟩
abbrev cX7_takeNumber : ByteArray := prog_9_method_6_code
def yX7_takeNumber : MethodName := ⟨RX7, "takeNumber", "(II)Z"⟩
abbrev cX7_canBe : ByteArray := prog_9_method_7_code
def yX7_canBe : MethodName := ⟨RX7, "canBe", "(III)Z"⟩
abbrev cX7_note : ByteArray := prog_9_method_8_code
def yX7_note : MethodName := ⟨RX7, "note", "(II)V"⟩
abbrev cX7_skipBlanks : ByteArray := prog_9_method_9_code
def yX7_skipBlanks : MethodName := ⟨RX7, "skipBlanks", "()V"⟩
abbrev cX7_wordOf : ByteArray := prog_9_method_10_code
def yX7_wordOf : MethodName := ⟨RX7, "wordOf", "(I)Ljava/lang/String;"⟩
def RX8 : String := "GooseBorder$Sharing"
def TX8 : u_T := fun k => match k with
  | 0 => ("GooseBorder$Sharing", "border", "LGooseBorder$Border;", false)
  | 1 => ("GooseBorder$Sharing", "law", "LGooseBorder$Law;", false)
  | 2 => ("GooseBorder$Sharing", "marks", "[I", true)
  | 3 => ("GooseBorder$Sharing", "open", "[I", true)
  | 4 => ("GooseBorder$Sharing", "opened", "I", false)
  | 5 => ("GooseBorder$Sharing", "row", "[I", true)
  | 6 => ("GooseBorder$Sharing", "tallies", "[I", true)
  | 7 => ("GooseBorder$Sharing", "pay", "[I", true)
  | 8 => ("GooseBorder$Sharing", "best", "[I", true)
  | 9 => ("GooseBorder$Sharing", "bestPay", "[I", true)
  | _ => ("GooseBorder$Sharing", "bestValue", "I", false)
def tyX8 : Nat → FieldType := fun k => match k with
  | 0 => .object "GooseBorder$Border"
  | 1 => .object "GooseBorder$Law"
  | 2 => .array .int
  | 3 => .array .int
  | 4 => .int
  | 5 => .array .int
  | 6 => .array .int
  | 7 => .array .int
  | 8 => .array .int
  | 9 => .array .int
  | _ => .int
abbrev wsX80 : List Cond := u_ws RX8 TX8 11
theorem nmX8 : ∀ a, a < 11 → ∀ b, b < 11 → a ≠ b → (TX8 a).2.1 ≠ (TX8 b).2.1 := by decide +kernel
theorem tyX8_ok : ∀ k, k < 11 → parseFieldDescriptor (TX8 k).2.2.1 = some (tyX8 k) := by decide +kernel
abbrev cX8_init : ByteArray := prog_10_method_1_code
def yX8_init : MethodName := ⟨RX8, "<init>", "()V"⟩
abbrev cX8_canShare : ByteArray := prog_10_method_2_code
def yX8_canShare : MethodName := ⟨RX8, "canShare", "(LGooseBorder$Border;)Z"⟩
abbrev cX8_difference : ByteArray := prog_10_method_3_code
def yX8_difference : MethodName := ⟨RX8, "difference", "()I"⟩
abbrev cX8_solve : ByteArray := prog_10_method_4_code
def yX8_solve : MethodName := ⟨RX8, "solve", "(LGooseBorder$Border;LGooseBorder$Law;I)V"⟩
abbrev cX8_begin : ByteArray := prog_10_method_5_code
def yX8_begin : MethodName := ⟨RX8, "begin", "(LGooseBorder$Border;LGooseBorder$Law;I)V"⟩
abbrev cX8_advance : ByteArray := prog_10_method_6_code
def yX8_advance : MethodName := ⟨RX8, "advance", "()V"⟩
abbrev cX8_payAnew : ByteArray := prog_10_method_7_code
def yX8_payAnew : MethodName := ⟨RX8, "payAnew", "(I)V"⟩
abbrev cX8_spread : ByteArray := prog_10_method_8_code
def yX8_spread : MethodName := ⟨RX8, "spread", "()I"⟩
abbrev cX8_together : ByteArray := prog_10_method_9_code
def yX8_together : MethodName := ⟨RX8, "together", "()I"⟩
abbrev cX8_keepRow : ByteArray := prog_10_method_10_code
def yX8_keepRow : MethodName := ⟨RX8, "keepRow", "()V"⟩
def RX9 : String := "GooseBorder$Sheet"
def TX9 : u_T := fun k => match k with
  | _ => ("", "", "", false)
def tyX9 : Nat → FieldType := fun k => match k with
  | _ => .int
abbrev wsX90 : List Cond := u_ws RX9 TX9 0
theorem nmX9 : ∀ a, a < 0 → ∀ b, b < 0 → a ≠ b → (TX9 a).2.1 ≠ (TX9 b).2.1 := by decide +kernel
theorem tyX9_ok : ∀ k, k < 0 → parseFieldDescriptor (TX9 k).2.2.1 = some (tyX9 k) := by decide +kernel
abbrev cX9_init : ByteArray := prog_11_method_1_code
def yX9_init : MethodName := ⟨RX9, "<init>", "(I)V"⟩
abbrev cX9_copyFrom : ByteArray := prog_11_method_2_code
def yX9_copyFrom : MethodName := ⟨RX9, "copyFrom", "(LGooseBorder$Sheet;)V"⟩
def RX10 : String := "GooseBorder$Told"
def TX10 : u_T := fun k => match k with
  | 0 => ("GooseBorder$Told", "borders", "[LGooseBorder$Border;", true)
  | 1 => ("GooseBorder$Told", "nights", "[LGooseBorder$Night;", true)
  | 2 => ("GooseBorder$Told", "laws", "[LGooseBorder$Law;", true)
  | 3 => ("GooseBorder$Told", "dawns", "[LGooseBorder$Dawn;", true)
  | 4 => ("GooseBorder$Told", "held", "[I", true)
  | 5 => ("GooseBorder$Told", "tape", "[B", true)
  | 6 => ("GooseBorder$Told", "length", "I", false)
  | 7 => ("GooseBorder$Told", "fault", "I", false)
  | _ => ("GooseBorder$Told", "place", "I", false)
def tyX10 : Nat → FieldType := fun k => match k with
  | 0 => .array (.object "GooseBorder$Border")
  | 1 => .array (.object "GooseBorder$Night")
  | 2 => .array (.object "GooseBorder$Law")
  | 3 => .array (.object "GooseBorder$Dawn")
  | 4 => .array .int
  | 5 => .array .byte
  | 6 => .int
  | 7 => .int
  | _ => .int
abbrev wsX100 : List Cond := u_ws RX10 TX10 9
theorem nmX10 : ∀ a, a < 9 → ∀ b, b < 9 → a ≠ b → (TX10 a).2.1 ≠ (TX10 b).2.1 := by decide +kernel
theorem tyX10_ok : ∀ k, k < 9 → parseFieldDescriptor (TX10 k).2.2.1 = some (tyX10 k) := by decide +kernel
abbrev cX10_init : ByteArray := prog_12_method_1_code
def yX10_init : MethodName := ⟨RX10, "<init>", "()V"⟩
abbrev cX10_addBytes : ByteArray := prog_12_method_2_code
def yX10_addBytes : MethodName := ⟨RX10, "addBytes", "(I)V"⟩
abbrev cX10_sheetOf : ByteArray := prog_12_method_3_code
def yX10_sheetOf : MethodName := ⟨RX10, "sheetOf", "(II)LGooseBorder$Sheet;"⟩
abbrev cX10_copyFrom : ByteArray := prog_12_method_4_code
def yX10_copyFrom : MethodName := ⟨RX10, "copyFrom", "(LGooseBorder$Told;)V"⟩
def RX11 : String := "GooseBorder"
def TX11 : u_T := fun k => match k with
  | 0 => ("GooseBorder", "now", "LGooseBorder$Told;", true)
  | 1 => ("GooseBorder", "images", "[LGooseBorder$Told;", true)
  | 2 => ("GooseBorder", "kept", "[Z", true)
  | 3 => ("GooseBorder", "drafts", "[LGooseBorder$Sheet;", true)
  | 4 => ("GooseBorder", "changed", "LGooseBorder$Night;", true)
  | 5 => ("GooseBorder", "reader", "LGooseBorder$Reader;", true)
  | 6 => ("GooseBorder", "play", "LGooseBorder$Play;", true)
  | 7 => ("GooseBorder", "sharing", "LGooseBorder$Sharing;", true)
  | 8 => ("GooseBorder", "flocks", "LGooseBorder$Flocks;", true)
  | _ => ("GooseBorder", "chance", "I", false)
def tyX11 : Nat → FieldType := fun k => match k with
  | 0 => .object "GooseBorder$Told"
  | 1 => .array (.object "GooseBorder$Told")
  | 2 => .array .boolean
  | 3 => .array (.object "GooseBorder$Sheet")
  | 4 => .object "GooseBorder$Night"
  | 5 => .object "GooseBorder$Reader"
  | 6 => .object "GooseBorder$Play"
  | 7 => .object "GooseBorder$Sharing"
  | 8 => .object "GooseBorder$Flocks"
  | _ => .int
abbrev wsX110 : List Cond := u_ws RX11 TX11 10
theorem nmX11 : ∀ a, a < 10 → ∀ b, b < 10 → a ≠ b → (TX11 a).2.1 ≠ (TX11 b).2.1 := by decide +kernel
theorem tyX11_ok : ∀ k, k < 10 → parseFieldDescriptor (TX11 k).2.2.1 = some (tyX11 k) := by decide +kernel
abbrev cX11_init : ByteArray := prog_1_method_1_code
def yX11_init : MethodName := ⟨RX11, "<init>", "()V"⟩
abbrev cX11_feed : ByteArray := prog_1_method_2_code
def yX11_feed : MethodName := ⟨RX11, "feed", "(IIIII)I"⟩
abbrev cX11_end : ByteArray := prog_1_method_3_code
def yX11_end : MethodName := ⟨RX11, "end", "(I)I"⟩
abbrev cX11_text : ByteArray := prog_1_method_4_code
def yX11_text : MethodName := ⟨RX11, "text", "(II)I"⟩
abbrev cX11_fault : ByteArray := prog_1_method_5_code
def yX11_fault : MethodName := ⟨RX11, "fault", "(I)I"⟩
abbrev cX11_count : ByteArray := prog_1_method_6_code
def yX11_count : MethodName := ⟨RX11, "count", "(I)I"⟩
abbrev cX11_image : ByteArray := prog_1_method_7_code
def yX11_image : MethodName := ⟨RX11, "image", "(I)Z"⟩
abbrev cX11_again : ByteArray := prog_1_method_8_code
def yX11_again : MethodName := ⟨RX11, "again", "(I)Z"⟩
abbrev cX11_border : ByteArray := prog_1_method_9_code
def yX11_border : MethodName := ⟨RX11, "border", "(II)I"⟩
abbrev cX11_marks : ByteArray := prog_1_method_10_code
def yX11_marks : MethodName := ⟨RX11, "marks", "(IIIZ)I"⟩
abbrev cX11_deed : ByteArray := prog_1_method_11_code
def yX11_deed : MethodName := ⟨RX11, "deed", "(III)I"⟩
abbrev cX11_term : ByteArray := prog_1_method_12_code
def yX11_term : MethodName := ⟨RX11, "term", "(III)I"⟩
abbrev cX11_seen : ByteArray := prog_1_method_13_code
def yX11_seen : MethodName := ⟨RX11, "seen", "(III)I"⟩
abbrev cX11_pays : ByteArray := prog_1_method_14_code
def yX11_pays : MethodName := ⟨RX11, "pays", "(II)I"⟩
abbrev cX11_lineOf : ByteArray := prog_1_method_15_code
def yX11_lineOf : MethodName := ⟨RX11, "lineOf", "(LGooseBorder$Lines;II)I"⟩
abbrev cX11_borderAt : ByteArray := prog_1_method_16_code
def yX11_borderAt : MethodName := ⟨RX11, "borderAt", "(I)LGooseBorder$Border;"⟩
abbrev cX11_nightAt : ByteArray := prog_1_method_17_code
def yX11_nightAt : MethodName := ⟨RX11, "nightAt", "(I)LGooseBorder$Night;"⟩
abbrev cX11_lawAt : ByteArray := prog_1_method_18_code
def yX11_lawAt : MethodName := ⟨RX11, "lawAt", "(I)LGooseBorder$Law;"⟩
abbrev cX11_dawnAt : ByteArray := prog_1_method_19_code
def yX11_dawnAt : MethodName := ⟨RX11, "dawnAt", "(I)LGooseBorder$Dawn;"⟩
abbrev cX11_stop : ByteArray := prog_1_method_20_code
def yX11_stop : MethodName := ⟨RX11, "stop", "(II)I"⟩
abbrev cX11_goose : ByteArray := prog_1_method_21_code
def yX11_goose : MethodName := ⟨RX11, "goose", "(IIIII)I"⟩
abbrev cX11_path : ByteArray := prog_1_method_22_code
def yX11_path : MethodName := ⟨RX11, "path", "(IIIII)I"⟩
abbrev cX11_state : ByteArray := prog_1_method_23_code
def yX11_state : MethodName := ⟨RX11, "state", "(IIII)I"⟩
abbrev cX11_playedOut : ByteArray := prog_1_method_24_code
def yX11_playedOut : MethodName := ⟨RX11, "playedOut", "(LGooseBorder$Border;LGooseBorder$Night;)Z"⟩
abbrev cX11_playedTo : ByteArray := prog_1_method_25_code
def yX11_playedTo : MethodName := ⟨RX11, "playedTo", "(LGooseBorder$Border;LGooseBorder$Night;I)Z"⟩
abbrev cX11_rest : ByteArray := prog_1_method_26_code
def yX11_rest : MethodName := ⟨RX11, "rest", "(III)I"⟩
abbrev cX11_take : ByteArray := prog_1_method_27_code
def yX11_take : MethodName := ⟨RX11, "take", "(IIII)I"⟩
abbrev cX11_honest : ByteArray := prog_1_method_28_code
def yX11_honest : MethodName := ⟨RX11, "honest", "(III)I"⟩
abbrev cX11_lacks : ByteArray := prog_1_method_29_code
def yX11_lacks : MethodName := ⟨RX11, "lacks", "(III)I"⟩
abbrev cX11_who : ByteArray := prog_1_method_30_code
def yX11_who : MethodName := ⟨RX11, "who", "(IIII)I"⟩
abbrev cX11_shift : ByteArray := prog_1_method_31_code
def yX11_shift : MethodName := ⟨RX11, "shift", "(IIZ)I"⟩
abbrev cX11_even : ByteArray := prog_1_method_32_code
def yX11_even : MethodName := ⟨RX11, "even", "(II)I"⟩
abbrev cX11_richest : ByteArray := prog_1_method_33_code
def yX11_richest : MethodName := ⟨RX11, "richest", "(III)I"⟩
abbrev cX11_close : ByteArray := prog_1_method_34_code
def yX11_close : MethodName := ⟨RX11, "close", "(IZ)I"⟩
abbrev cX11_tar : ByteArray := prog_1_method_35_code
def yX11_tar : MethodName := ⟨RX11, "tar", "(III)I"⟩
abbrev cX11_lame : ByteArray := prog_1_method_36_code
def yX11_lame : MethodName := ⟨RX11, "lame", "(III)I"⟩
abbrev cX11_bestPath : ByteArray := prog_1_method_37_code
def yX11_bestPath : MethodName := ⟨RX11, "bestPath", "(LGooseBorder$Border;I)I"⟩
abbrev cX11_two : ByteArray := prog_1_method_38_code
def yX11_two : MethodName := ⟨RX11, "two", "(IIII)I"⟩
abbrev cX11_alike : ByteArray := prog_1_method_39_code
def yX11_alike : MethodName := ⟨RX11, "alike", "(III)I"⟩
abbrev cX11_span : ByteArray := prog_1_method_40_code
def yX11_span : MethodName := ⟨RX11, "span", "(IIIZ)I"⟩
abbrev cX11_split : ByteArray := prog_1_method_41_code
def yX11_split : MethodName := ⟨RX11, "split", "(IIIZ)I"⟩
abbrev cX11_backs : ByteArray := prog_1_method_42_code
def yX11_backs : MethodName := ⟨RX11, "backs", "(IIIZ)I"⟩
abbrev cX11_near : ByteArray := prog_1_method_43_code
def yX11_near : MethodName := ⟨RX11, "near", "(III)I"⟩
abbrev cX11_thrift : ByteArray := prog_1_method_44_code
def yX11_thrift : MethodName := ⟨RX11, "thrift", "(I)I"⟩
abbrev cX11_fits : ByteArray := prog_1_method_45_code
def yX11_fits : MethodName := ⟨RX11, "fits", "(II)J"⟩
abbrev cX11_told : ByteArray := prog_1_method_46_code
def yX11_told : MethodName := ⟨RX11, "told", "(III)I"⟩
abbrev cX11_toeOf : ByteArray := prog_1_method_47_code
def yX11_toeOf : MethodName := ⟨RX11, "toeOf", "(LGooseBorder$Border;LGooseBorder$Dawn;)I"⟩
abbrev cX11_drawn : ByteArray := prog_1_method_48_code
def yX11_drawn : MethodName := ⟨RX11, "drawn", "(IIII)I"⟩
abbrev cX11_isDrawnOf : ByteArray := prog_1_method_49_code
def yX11_isDrawnOf : MethodName := ⟨RX11, "isDrawnOf", "(LGooseBorder$Border;I)Z"⟩
abbrev cX11_drawnNight : ByteArray := prog_1_method_50_code
def yX11_drawnNight : MethodName := ⟨RX11, "drawnNight", "(LGooseBorder$Border;I)I"⟩
abbrev cX11_numberBelow : ByteArray := prog_1_method_51_code
def yX11_numberBelow : MethodName := ⟨RX11, "numberBelow", "(I)I"⟩
def RX12 : String := "GooseBorderModel"
def TX12 : u_T := fun k => match k with
  | 0 => ("GooseBorderModel", "all", "[I", true)
  | 1 => ("GooseBorderModel", "has", "[Z", true)
  | 2 => ("GooseBorderModel", "size", "I", false)
  | 3 => ("GooseBorderModel", "next", "I", false)
  | 4 => ("GooseBorderModel", "where", "I", false)
  | 5 => ("GooseBorderModel", "token", "I", false)
  | 6 => ("GooseBorderModel", "number", "I", false)
  | 7 => ("GooseBorderModel", "word", "I", false)
  | 8 => ("GooseBorderModel", "wrong", "Z", false)
  | 9 => ("GooseBorderModel", "twice", "Z", false)
  | 10 => ("GooseBorderModel", "read", "[I", true)
  | 11 => ("GooseBorderModel", "b0", "I", false)
  | 12 => ("GooseBorderModel", "n0", "I", false)
  | 13 => ("GooseBorderModel", "at", "[I", true)
  | 14 => ("GooseBorderModel", "boots", "[I", true)
  | 15 => ("GooseBorderModel", "trail", "[I", true)
  | 16 => ("GooseBorderModel", "lastPath", "[I", true)
  | 17 => ("GooseBorderModel", "shod", "[Z", true)
  | 18 => ("GooseBorderModel", "gone", "[I", true)
  | 19 => ("GooseBorderModel", "marked", "[I", true)
  | 20 => ("GooseBorderModel", "exported", "[I", true)
  | 21 => ("GooseBorderModel", "washed", "[I", true)
  | 22 => ("GooseBorderModel", "frost", "Z", false)
  | 23 => ("GooseBorderModel", "done", "I", false)
  | 24 => ("GooseBorderModel", "spared", "I", false)
  | 25 => ("GooseBorderModel", "l0", "I", false)
  | 26 => ("GooseBorderModel", "firsts", "[I", true)
  | 27 => ("GooseBorderModel", "sum", "[I", true)
  | 28 => ("GooseBorderModel", "bestCode", "I", false)
  | 29 => ("GooseBorderModel", "d0", "I", false)
  | 30 => ("GooseBorderModel", "due", "[I", true)
  | 31 => ("GooseBorderModel", "choice", "[I", true)
  | 32 => ("GooseBorderModel", "added", "[Z", true)
  | 33 => ("GooseBorderModel", "ways", "J", false)
  | 34 => ("GooseBorderModel", "fewest", "I", false)
  | 35 => ("GooseBorderModel", "most", "I", false)
  | 36 => ("GooseBorderModel", "sure", "I", false)
  | 37 => ("GooseBorderModel", "by", "[I", true)
  | 38 => ("GooseBorderModel", "x0", "I", false)
  | 39 => ("GooseBorderModel", "tallies", "[I", true)
  | 40 => ("GooseBorderModel", "trails", "[I", true)
  | 41 => ("GooseBorderModel", "paid", "I", false)
  | 42 => ("GooseBorderModel", "children", "I", false)
  | _ => ("GooseBorderModel", "put", "[Z", true)
def tyX12 : Nat → FieldType := fun k => match k with
  | 0 => .array .int
  | 1 => .array .boolean
  | 2 => .int
  | 3 => .int
  | 4 => .int
  | 5 => .int
  | 6 => .int
  | 7 => .int
  | 8 => .boolean
  | 9 => .boolean
  | 10 => .array .int
  | 11 => .int
  | 12 => .int
  | 13 => .array .int
  | 14 => .array .int
  | 15 => .array .int
  | 16 => .array .int
  | 17 => .array .boolean
  | 18 => .array .int
  | 19 => .array .int
  | 20 => .array .int
  | 21 => .array .int
  | 22 => .boolean
  | 23 => .int
  | 24 => .int
  | 25 => .int
  | 26 => .array .int
  | 27 => .array .int
  | 28 => .int
  | 29 => .int
  | 30 => .array .int
  | 31 => .array .int
  | 32 => .array .boolean
  | 33 => .long
  | 34 => .int
  | 35 => .int
  | 36 => .int
  | 37 => .array .int
  | 38 => .int
  | 39 => .array .int
  | 40 => .array .int
  | 41 => .int
  | 42 => .int
  | _ => .array .boolean
abbrev wsX120 : List Cond := u_ws RX12 TX12 44
theorem nmX12 : ∀ a, a < 44 → ∀ b, b < 44 → a ≠ b → (TX12 a).2.1 ≠ (TX12 b).2.1 := by decide +kernel
theorem tyX12_ok : ∀ k, k < 44 → parseFieldDescriptor (TX12 k).2.2.1 = some (tyX12 k) := by decide +kernel
abbrev cX12_init : ByteArray := prog_14_method_1_code
def yX12_init : MethodName := ⟨RX12, "<init>", "()V"⟩
abbrev cX12_isIn : ByteArray := prog_14_method_2_code
def yX12_isIn : MethodName := ⟨RX12, "isIn", "(III)Z"⟩
abbrev cX12_feed : ByteArray := prog_14_method_3_code
def yX12_feed : MethodName := ⟨RX12, "feed", "(IIIII)I"⟩
abbrev cX12_end : ByteArray := prog_14_method_4_code
def yX12_end : MethodName := ⟨RX12, "end", "(I)I"⟩
abbrev cX12_byteAt : ByteArray := prog_14_method_5_code
def yX12_byteAt : MethodName := ⟨RX12, "byteAt", "(I)I"⟩
abbrev cX12_isLetter : ByteArray := prog_14_method_6_code
def yX12_isLetter : MethodName := ⟨RX12, "isLetter", "(I)Z"⟩
abbrev cX12_isDigit : ByteArray := prog_14_method_7_code
def yX12_isDigit : MethodName := ⟨RX12, "isDigit", "(I)Z"⟩
abbrev cX12_four : ByteArray := prog_14_method_8_code
def yX12_four : MethodName := ⟨RX12, "four", "(IIII)J"⟩
abbrev cX12_eight : ByteArray := prog_14_method_9_code
def yX12_eight : MethodName := ⟨RX12, "eight", "(IIIIIIII)J"⟩
abbrev cX12_wordOf : ByteArray := prog_14_method_10_code
def yX12_wordOf : MethodName := ⟨RX12, "wordOf", "(J)I"⟩
abbrev cX12_advance : ByteArray := prog_14_method_11_code
def yX12_advance : MethodName := ⟨RX12, "advance", "()V"⟩
abbrev cX12_ends : ByteArray := prog_14_method_12_code
def yX12_ends : MethodName := ⟨RX12, "ends", "()V"⟩
abbrev cX12_also : ByteArray := prog_14_method_13_code
def yX12_also : MethodName := ⟨RX12, "also", "(II)V"⟩
abbrev cX12_numbered : ByteArray := prog_14_method_14_code
def yX12_numbered : MethodName := ⟨RX12, "numbered", "(II)I"⟩
abbrev cX12_takes : ByteArray := prog_14_method_15_code
def yX12_takes : MethodName := ⟨RX12, "takes", "(II)I"⟩
abbrev cX12_endsLine : ByteArray := prog_14_method_16_code
def yX12_endsLine : MethodName := ⟨RX12, "endsLine", "()V"⟩
abbrev cX12_pathLine : ByteArray := prog_14_method_17_code
def yX12_pathLine : MethodName := ⟨RX12, "pathLine", "(I)V"⟩
abbrev cX12_gooseLine : ByteArray := prog_14_method_18_code
def yX12_gooseLine : MethodName := ⟨RX12, "gooseLine", "(I)V"⟩
abbrev cX12_borderLine : ByteArray := prog_14_method_19_code
def yX12_borderLine : MethodName := ⟨RX12, "borderLine", "()V"⟩
abbrev cX12_gooseTold : ByteArray := prog_14_method_20_code
def yX12_gooseTold : MethodName := ⟨RX12, "gooseTold", "()I"⟩
abbrev cX12_pathTold : ByteArray := prog_14_method_21_code
def yX12_pathTold : MethodName := ⟨RX12, "pathTold", "()I"⟩
abbrev cX12_adds : ByteArray := prog_14_method_22_code
def yX12_adds : MethodName := ⟨RX12, "adds", "(IIIIII)V"⟩
abbrev cX12_deedLine : ByteArray := prog_14_method_23_code
def yX12_deedLine : MethodName := ⟨RX12, "deedLine", "()V"⟩
abbrev cX12_termLine : ByteArray := prog_14_method_24_code
def yX12_termLine : MethodName := ⟨RX12, "termLine", "()V"⟩
abbrev cX12_seenLine : ByteArray := prog_14_method_25_code
def yX12_seenLine : MethodName := ⟨RX12, "seenLine", "()V"⟩
abbrev cX12_placeOf : ByteArray := prog_14_method_26_code
def yX12_placeOf : MethodName := ⟨RX12, "placeOf", "(II)I"⟩
abbrev cX12_sizeOf : ByteArray := prog_14_method_27_code
def yX12_sizeOf : MethodName := ⟨RX12, "sizeOf", "(I)I"⟩
abbrev cX12_isOf : ByteArray := prog_14_method_28_code
def yX12_isOf : MethodName := ⟨RX12, "isOf", "(II)Z"⟩
abbrev cX12_text : ByteArray := prog_14_method_29_code
def yX12_text : MethodName := ⟨RX12, "text", "(II)I"⟩
abbrev cX12_fault : ByteArray := prog_14_method_30_code
def yX12_fault : MethodName := ⟨RX12, "fault", "(I)I"⟩
abbrev cX12_isBorder : ByteArray := prog_14_method_31_code
def yX12_isBorder : MethodName := ⟨RX12, "isBorder", "(I)Z"⟩
abbrev cX12_of : ByteArray := prog_14_method_32_code
def yX12_of : MethodName := ⟨RX12, "of", "(I)I"⟩
abbrev cX12_paths : ByteArray := prog_14_method_33_code
def yX12_paths : MethodName := ⟨RX12, "paths", "()I"⟩
abbrev cX12_geese : ByteArray := prog_14_method_34_code
def yX12_geese : MethodName := ⟨RX12, "geese", "()I"⟩
abbrev cX12_isPath : ByteArray := prog_14_method_35_code
def yX12_isPath : MethodName := ⟨RX12, "isPath", "(I)Z"⟩
abbrev cX12_isGoose : ByteArray := prog_14_method_36_code
def yX12_isGoose : MethodName := ⟨RX12, "isGoose", "(I)Z"⟩
abbrev cX12_ofPath : ByteArray := prog_14_method_37_code
def yX12_ofPath : MethodName := ⟨RX12, "ofPath", "(II)I"⟩
abbrev cX12_ofGoose : ByteArray := prog_14_method_38_code
def yX12_ofGoose : MethodName := ⟨RX12, "ofGoose", "(II)I"⟩
abbrev cX12_border : ByteArray := prog_14_method_39_code
def yX12_border : MethodName := ⟨RX12, "border", "(II)I"⟩
abbrev cX12_left : ByteArray := prog_14_method_40_code
def yX12_left : MethodName := ⟨RX12, "left", "(IIIZI)I"⟩
abbrev cX12_firstMarks : ByteArray := prog_14_method_41_code
def yX12_firstMarks : MethodName := ⟨RX12, "firstMarks", "(II)I"⟩
abbrev cX12_marks : ByteArray := prog_14_method_42_code
def yX12_marks : MethodName := ⟨RX12, "marks", "(IIIZ)I"⟩
abbrev cX12_deeds : ByteArray := prog_14_method_43_code
def yX12_deeds : MethodName := ⟨RX12, "deeds", "()I"⟩
abbrev cX12_deedOf : ByteArray := prog_14_method_44_code
def yX12_deedOf : MethodName := ⟨RX12, "deedOf", "(II)I"⟩
abbrev cX12_deed : ByteArray := prog_14_method_45_code
def yX12_deed : MethodName := ⟨RX12, "deed", "(III)I"⟩
abbrev cX12_begins : ByteArray := prog_14_method_46_code
def yX12_begins : MethodName := ⟨RX12, "begins", "()V"⟩
abbrev cX12_foxed : ByteArray := prog_14_method_47_code
def yX12_foxed : MethodName := ⟨RX12, "foxed", "(I)I"⟩
abbrev cX12_isAt : ByteArray := prog_14_method_48_code
def yX12_isAt : MethodName := ⟨RX12, "isAt", "(II)Z"⟩
abbrev cX12_can : ByteArray := prog_14_method_49_code
def yX12_can : MethodName := ⟨RX12, "can", "(I)Z"⟩
abbrev cX12_walks : ByteArray := prog_14_method_50_code
def yX12_walks : MethodName := ⟨RX12, "walks", "(IIIZI)V"⟩
abbrev cX12_rains : ByteArray := prog_14_method_51_code
def yX12_rains : MethodName := ⟨RX12, "rains", "(I)V"⟩
abbrev cX12_does : ByteArray := prog_14_method_52_code
def yX12_does : MethodName := ⟨RX12, "does", "(I)V"⟩
abbrev cX12_areTold : ByteArray := prog_14_method_53_code
def yX12_areTold : MethodName := ⟨RX12, "areTold", "(II)Z"⟩
abbrev cX12_runs : ByteArray := prog_14_method_54_code
def yX12_runs : MethodName := ⟨RX12, "runs", "(I)V"⟩
abbrev cX12_stop : ByteArray := prog_14_method_55_code
def yX12_stop : MethodName := ⟨RX12, "stop", "(II)I"⟩
abbrev cX12_isState : ByteArray := prog_14_method_56_code
def yX12_isState : MethodName := ⟨RX12, "isState", "(III)Z"⟩
abbrev cX12_goose : ByteArray := prog_14_method_57_code
def yX12_goose : MethodName := ⟨RX12, "goose", "(IIIII)I"⟩
abbrev cX12_tally : ByteArray := prog_14_method_58_code
def yX12_tally : MethodName := ⟨RX12, "tally", "(I)I"⟩
abbrev cX12_padded : ByteArray := prog_14_method_59_code
def yX12_padded : MethodName := ⟨RX12, "padded", "(II)I"⟩
abbrev cX12_pay : ByteArray := prog_14_method_60_code
def yX12_pay : MethodName := ⟨RX12, "pay", "(I)I"⟩
abbrev cX12_allPay : ByteArray := prog_14_method_61_code
def yX12_allPay : MethodName := ⟨RX12, "allPay", "()I"⟩
abbrev cX12_path : ByteArray := prog_14_method_62_code
def yX12_path : MethodName := ⟨RX12, "path", "(IIIII)I"⟩
abbrev cX12_worn : ByteArray := prog_14_method_63_code
def yX12_worn : MethodName := ⟨RX12, "worn", "()I"⟩
abbrev cX12_state : ByteArray := prog_14_method_64_code
def yX12_state : MethodName := ⟨RX12, "state", "(IIII)I"⟩
abbrev cX12_termOf : ByteArray := prog_14_method_65_code
def yX12_termOf : MethodName := ⟨RX12, "termOf", "(II)I"⟩
abbrev cX12_term : ByteArray := prog_14_method_66_code
def yX12_term : MethodName := ⟨RX12, "term", "(III)I"⟩
abbrev cX12_paysBy : ByteArray := prog_14_method_67_code
def yX12_paysBy : MethodName := ⟨RX12, "paysBy", "(I)I"⟩
abbrev cX12_pays : ByteArray := prog_14_method_68_code
def yX12_pays : MethodName := ⟨RX12, "pays", "(II)I"⟩
abbrev cX12_measures : ByteArray := prog_14_method_69_code
def yX12_measures : MethodName := ⟨RX12, "measures", "()V"⟩
abbrev cX12_codes : ByteArray := prog_14_method_70_code
def yX12_codes : MethodName := ⟨RX12, "codes", "()I"⟩
abbrev cX12_sums : ByteArray := prog_14_method_71_code
def yX12_sums : MethodName := ⟨RX12, "sums", "(I)V"⟩
abbrev cX12_payOf : ByteArray := prog_14_method_72_code
def yX12_payOf : MethodName := ⟨RX12, "payOf", "(I)I"⟩
abbrev cX12_worthOf : ByteArray := prog_14_method_73_code
def yX12_worthOf : MethodName := ⟨RX12, "worthOf", "(IZ)I"⟩
abbrev cX12_bestWorth : ByteArray := prog_14_method_74_code
def yX12_bestWorth : MethodName := ⟨RX12, "bestWorth", "(Z)I"⟩
abbrev cX12_canMarch : ByteArray := prog_14_method_75_code
def yX12_canMarch : MethodName := ⟨RX12, "canMarch", "(I)Z"⟩
abbrev cX12_figure : ByteArray := prog_14_method_76_code
def yX12_figure : MethodName := ⟨RX12, "figure", "(I)I"⟩
abbrev cX12_even : ByteArray := prog_14_method_77_code
def yX12_even : MethodName := ⟨RX12, "even", "(II)I"⟩
abbrev cX12_richest : ByteArray := prog_14_method_78_code
def yX12_richest : MethodName := ⟨RX12, "richest", "(III)I"⟩
abbrev cX12_tar : ByteArray := prog_14_method_79_code
def yX12_tar : MethodName := ⟨RX12, "tar", "(III)I"⟩
abbrev cX12_lamePay : ByteArray := prog_14_method_80_code
def yX12_lamePay : MethodName := ⟨RX12, "lamePay", "(IZ)I"⟩
abbrev cX12_bestPath : ByteArray := prog_14_method_81_code
def yX12_bestPath : MethodName := ⟨RX12, "bestPath", "(I)I"⟩
abbrev cX12_lame : ByteArray := prog_14_method_82_code
def yX12_lame : MethodName := ⟨RX12, "lame", "(III)I"⟩
abbrev cX12_takeOf : ByteArray := prog_14_method_83_code
def yX12_takeOf : MethodName := ⟨RX12, "takeOf", "(II)I"⟩
abbrev cX12_isRest : ByteArray := prog_14_method_84_code
def yX12_isRest : MethodName := ⟨RX12, "isRest", "(I)Z"⟩
abbrev cX12_rest : ByteArray := prog_14_method_85_code
def yX12_rest : MethodName := ⟨RX12, "rest", "(III)I"⟩
abbrev cX12_take : ByteArray := prog_14_method_86_code
def yX12_take : MethodName := ⟨RX12, "take", "(IIII)I"⟩
abbrev cX12_honest : ByteArray := prog_14_method_87_code
def yX12_honest : MethodName := ⟨RX12, "honest", "(III)I"⟩
abbrev cX12_seenOf : ByteArray := prog_14_method_88_code
def yX12_seenOf : MethodName := ⟨RX12, "seenOf", "(II)I"⟩
abbrev cX12_seen : ByteArray := prog_14_method_89_code
def yX12_seen : MethodName := ⟨RX12, "seen", "(III)I"⟩
abbrev cX12_isWhole : ByteArray := prog_14_method_90_code
def yX12_isWhole : MethodName := ⟨RX12, "isWhole", "()Z"⟩
abbrev cX12_counts : ByteArray := prog_14_method_91_code
def yX12_counts : MethodName := ⟨RX12, "counts", "()V"⟩
abbrev cX12_opens : ByteArray := prog_14_method_92_code
def yX12_opens : MethodName := ⟨RX12, "opens", "()V"⟩
abbrev cX12_isNext : ByteArray := prog_14_method_93_code
def yX12_isNext : MethodName := ⟨RX12, "isNext", "(I)Z"⟩
abbrev cX12_tries : ByteArray := prog_14_method_94_code
def yX12_tries : MethodName := ⟨RX12, "tries", "()V"⟩
abbrev cX12_areSeen : ByteArray := prog_14_method_95_code
def yX12_areSeen : MethodName := ⟨RX12, "areSeen", "(II)Z"⟩
abbrev cX12_fits : ByteArray := prog_14_method_96_code
def yX12_fits : MethodName := ⟨RX12, "fits", "(II)J"⟩
abbrev cX12_toe : ByteArray := prog_14_method_97_code
def yX12_toe : MethodName := ⟨RX12, "toe", "()I"⟩
abbrev cX12_told : ByteArray := prog_14_method_98_code
def yX12_told : MethodName := ⟨RX12, "told", "(III)I"⟩
abbrev cX12_lacks : ByteArray := prog_14_method_99_code
def yX12_lacks : MethodName := ⟨RX12, "lacks", "(III)I"⟩
abbrev cX12_who : ByteArray := prog_14_method_100_code
def yX12_who : MethodName := ⟨RX12, "who", "(IIII)I"⟩
abbrev cX12_below : ByteArray := prog_14_method_101_code
def yX12_below : MethodName := ⟨RX12, "below", "(I)I"⟩
abbrev cX12_draws : ByteArray := prog_14_method_102_code
def yX12_draws : MethodName := ⟨RX12, "draws", "()V"⟩
abbrev cX12_drawn : ByteArray := prog_14_method_103_code
def yX12_drawn : MethodName := ⟨RX12, "drawn", "(IIII)I"⟩
abbrev cX12_alike : ByteArray := prog_14_method_104_code
def yX12_alike : MethodName := ⟨RX12, "alike", "(III)I"⟩
abbrev cX12_span : ByteArray := prog_14_method_105_code
def yX12_span : MethodName := ⟨RX12, "span", "(IIIZ)I"⟩
abbrev cX12_split : ByteArray := prog_14_method_106_code
def yX12_split : MethodName := ⟨RX12, "split", "(IIIZ)I"⟩
abbrev cX12_two : ByteArray := prog_14_method_107_code
def yX12_two : MethodName := ⟨RX12, "two", "(IIII)I"⟩
abbrev cX12_backs : ByteArray := prog_14_method_108_code
def yX12_backs : MethodName := ⟨RX12, "backs", "(IIIZ)I"⟩
abbrev cX12_bits : ByteArray := prog_14_method_109_code
def yX12_bits : MethodName := ⟨RX12, "bits", "(I)I"⟩
abbrev cX12_apartWithout : ByteArray := prog_14_method_110_code
def yX12_apartWithout : MethodName := ⟨RX12, "apartWithout", "(I)I"⟩
abbrev cX12_close : ByteArray := prog_14_method_111_code
def yX12_close : MethodName := ⟨RX12, "close", "(IZ)I"⟩
abbrev cX12_near : ByteArray := prog_14_method_112_code
def yX12_near : MethodName := ⟨RX12, "near", "(III)I"⟩
abbrev cX12_swaps : ByteArray := prog_14_method_113_code
def yX12_swaps : MethodName := ⟨RX12, "swaps", "(I)V"⟩
abbrev cX12_shift : ByteArray := prog_14_method_114_code
def yX12_shift : MethodName := ⟨RX12, "shift", "(IIZ)I"⟩
abbrev cX12_isPut : ByteArray := prog_14_method_115_code
def yX12_isPut : MethodName := ⟨RX12, "isPut", "(I)Z"⟩
abbrev cX12_thrift : ByteArray := prog_14_method_116_code
def yX12_thrift : MethodName := ⟨RX12, "thrift", "(I)I"⟩
abbrev cX12_count : ByteArray := prog_14_method_117_code
def yX12_count : MethodName := ⟨RX12, "count", "(I)I"⟩
abbrev cX12_image : ByteArray := prog_14_method_118_code
def yX12_image : MethodName := ⟨RX12, "image", "(I)Z"⟩
abbrev cX12_again : ByteArray := prog_14_method_119_code
def yX12_again : MethodName := ⟨RX12, "again", "(I)Z"⟩
def RJx145de : String := "java/io/Serializable"
def TJx145de : u_T := fun k => match k with
  | _ => ("", "", "", false)
def tyJx145de : Nat → FieldType := fun k => match k with
  | _ => .int
abbrev wsJx145de0 : List Cond := u_ws RJx145de TJx145de 0
theorem nmJx145de : ∀ a, a < 0 → ∀ b, b < 0 → a ≠ b → (TJx145de a).2.1 ≠ (TJx145de b).2.1 := by decide +kernel
theorem tyJx145de_ok : ∀ k, k < 0 → parseFieldDescriptor (TJx145de k).2.2.1 = some (tyJx145de k) := by decide +kernel
def RJx9f9b0 : String := "java/lang/CharSequence"
def TJx9f9b0 : u_T := fun k => match k with
  | _ => ("", "", "", false)
def tyJx9f9b0 : Nat → FieldType := fun k => match k with
  | _ => .int
abbrev wsJx9f9b00 : List Cond := u_ws RJx9f9b0 TJx9f9b0 0
theorem nmJx9f9b0 : ∀ a, a < 0 → ∀ b, b < 0 → a ≠ b → (TJx9f9b0 a).2.1 ≠ (TJx9f9b0 b).2.1 := by decide +kernel
theorem tyJx9f9b0_ok : ∀ k, k < 0 → parseFieldDescriptor (TJx9f9b0 k).2.2.1 = some (tyJx9f9b0 k) := by decide +kernel
def RJxb160c : String := "java/lang/Comparable"
def TJxb160c : u_T := fun k => match k with
  | _ => ("", "", "", false)
def tyJxb160c : Nat → FieldType := fun k => match k with
  | _ => .int
abbrev wsJxb160c0 : List Cond := u_ws RJxb160c TJxb160c 0
theorem nmJxb160c : ∀ a, a < 0 → ∀ b, b < 0 → a ≠ b → (TJxb160c a).2.1 ≠ (TJxb160c b).2.1 := by decide +kernel
theorem tyJxb160c_ok : ∀ k, k < 0 → parseFieldDescriptor (TJxb160c k).2.2.1 = some (tyJxb160c k) := by decide +kernel
def RJ6 : String := "java/lang/Integer"
def TJ6 : u_T := fun k => match k with
  | _ => ("", "", "", false)
def tyJ6 : Nat → FieldType := fun k => match k with
  | _ => .int
abbrev wsJ60 : List Cond := u_ws RJ6 TJ6 0
theorem nmJ6 : ∀ a, a < 0 → ∀ b, b < 0 → a ≠ b → (TJ6 a).2.1 ≠ (TJ6 b).2.1 := by decide +kernel
theorem tyJ6_ok : ∀ k, k < 0 → parseFieldDescriptor (TJ6 k).2.2.1 = some (tyJ6 k) := by decide +kernel
abbrev cJ6_bitCount_0f7a4 : ByteArray := prog_15_method_49_code
def yJ6_bitCount_0f7a4 : MethodName := ⟨RJ6, "bitCount", "(I)I"⟩
def RJ9 : String := "java/lang/Math"
def TJ9 : u_T := fun k => match k with
  | _ => ("", "", "", false)
def tyJ9 : Nat → FieldType := fun k => match k with
  | _ => .int
abbrev wsJ90 : List Cond := u_ws RJ9 TJ9 0
theorem nmJ9 : ∀ a, a < 0 → ∀ b, b < 0 → a ≠ b → (TJ9 a).2.1 ≠ (TJ9 b).2.1 := by decide +kernel
theorem tyJ9_ok : ∀ k, k < 0 → parseFieldDescriptor (TJ9 k).2.2.1 = some (tyJ9 k) := by decide +kernel
abbrev cJ9_abs_0f7a4 : ByteArray := prog_16_method_59_code
def yJ9_abs_0f7a4 : MethodName := ⟨RJ9, "abs", "(I)I"⟩
abbrev cJ9_max_7cf53 : ByteArray := prog_16_method_65_code
def yJ9_max_7cf53 : MethodName := ⟨RJ9, "max", "(II)I"⟩
abbrev cJ9_min_7cf53 : ByteArray := prog_16_method_69_code
def yJ9_min_7cf53 : MethodName := ⟨RJ9, "min", "(II)I"⟩
def RJ0 : String := "java/lang/String"
def TJ0 : u_T := fun k => match k with
  | _ => ("", "", "", false)
def tyJ0 : Nat → FieldType := fun k => match k with
  | _ => .int
abbrev wsJ00 : List Cond := u_ws RJ0 TJ0 0
theorem nmJ0 : ∀ a, a < 0 → ∀ b, b < 0 → a ≠ b → (TJ0 a).2.1 ≠ (TJ0 b).2.1 := by decide +kernel
theorem tyJ0_ok : ∀ k, k < 0 → parseFieldDescriptor (TJ0 k).2.2.1 = some (tyJ0 k) := by decide +kernel
abbrev cJ0_length_8abf5 : ByteArray := prog_17_method_54_code
def yJ0_length_8abf5 : MethodName := ⟨RJ0, "length", "()I"⟩
abbrev cJ0_charAt_5068e : ByteArray := prog_17_method_56_code
def yJ0_charAt_5068e : MethodName := ⟨RJ0, "charAt", "(I)C"⟩
abbrev cJ0_coder_7d493 : ByteArray := prog_17_method_152_code
def yJ0_coder_7d493 : MethodName := ⟨RJ0, "coder", "()B"⟩
abbrev cJ0_isLatin1_aae02 : ByteArray := prog_17_method_154_code
def yJ0_isLatin1_aae02 : MethodName := ⟨RJ0, "isLatin1", "()Z"⟩
abbrev cJ0_checkIndex_df160 : ByteArray := prog_17_method_155_code
def yJ0_checkIndex_df160 : MethodName := ⟨RJ0, "checkIndex", "(II)V"⟩
def RJ1 : String := "java/lang/StringLatin1"
def TJ1 : u_T := fun k => match k with
  | _ => ("", "", "", false)
def tyJ1 : Nat → FieldType := fun k => match k with
  | _ => .int
abbrev wsJ10 : List Cond := u_ws RJ1 TJ1 0
theorem nmJ1 : ∀ a, a < 0 → ∀ b, b < 0 → a ≠ b → (TJ1 a).2.1 ≠ (TJ1 b).2.1 := by decide +kernel
theorem tyJ1_ok : ∀ k, k < 0 → parseFieldDescriptor (TJ1 k).2.2.1 = some (tyJ1 k) := by decide +kernel
abbrev cJ1_charAt_3b067 : ByteArray := prog_18_method_2_code
def yJ1_charAt_3b067 : MethodName := ⟨RJ1, "charAt", "([BI)C"⟩
def RJ2 : String := "java/lang/StringUTF16"
def TJ2 : u_T := fun k => match k with
  | _ => ("", "", "", false)
def tyJ2 : Nat → FieldType := fun k => match k with
  | _ => .int
abbrev wsJ20 : List Cond := u_ws RJ2 TJ2 0
theorem nmJ2 : ∀ a, a < 0 → ∀ b, b < 0 → a ≠ b → (TJ2 a).2.1 ≠ (TJ2 b).2.1 := by decide +kernel
theorem tyJ2_ok : ∀ k, k < 0 → parseFieldDescriptor (TJ2 k).2.2.1 = some (tyJ2 k) := by decide +kernel
abbrev cJ2_getChar_3b067 : ByteArray := prog_19_method_5_code
def yJ2_getChar_3b067 : MethodName := ⟨RJ2, "getChar", "([BI)C"⟩
abbrev cJ2_length_9d52b : ByteArray := prog_19_method_6_code
def yJ2_length_9d52b : MethodName := ⟨RJ2, "length", "([B)I"⟩
abbrev cJ2_charAt_3b067 : ByteArray := prog_19_method_83_code
def yJ2_charAt_3b067 : MethodName := ⟨RJ2, "charAt", "([BI)C"⟩
abbrev cJ2_checkIndex_2214a : ByteArray := prog_19_method_91_code
def yJ2_checkIndex_2214a : MethodName := ⟨RJ2, "checkIndex", "(I[B)V"⟩
def RJ10 : String := "java/lang/System"
def TJ10 : u_T := fun k => match k with
  | _ => ("", "", "", false)
def tyJ10 : Nat → FieldType := fun k => match k with
  | _ => .int
abbrev wsJ100 : List Cond := u_ws RJ10 TJ10 0
theorem nmJ10 : ∀ a, a < 0 → ∀ b, b < 0 → a ≠ b → (TJ10 a).2.1 ≠ (TJ10 b).2.1 := by decide +kernel
theorem tyJ10_ok : ∀ k, k < 0 → parseFieldDescriptor (TJ10 k).2.2.1 = some (tyJ10 k) := by decide +kernel
def RJxfd54e : String := "java/lang/constant/Constable"
def TJxfd54e : u_T := fun k => match k with
  | _ => ("", "", "", false)
def tyJxfd54e : Nat → FieldType := fun k => match k with
  | _ => .int
abbrev wsJxfd54e0 : List Cond := u_ws RJxfd54e TJxfd54e 0
theorem nmJxfd54e : ∀ a, a < 0 → ∀ b, b < 0 → a ≠ b → (TJxfd54e a).2.1 ≠ (TJxfd54e b).2.1 := by decide +kernel
theorem tyJxfd54e_ok : ∀ k, k < 0 → parseFieldDescriptor (TJxfd54e k).2.2.1 = some (tyJxfd54e k) := by decide +kernel
def RJx3cf43 : String := "java/lang/constant/ConstantDesc"
def TJx3cf43 : u_T := fun k => match k with
  | _ => ("", "", "", false)
def tyJx3cf43 : Nat → FieldType := fun k => match k with
  | _ => .int
abbrev wsJx3cf430 : List Cond := u_ws RJx3cf43 TJx3cf43 0
theorem nmJx3cf43 : ∀ a, a < 0 → ∀ b, b < 0 → a ≠ b → (TJx3cf43 a).2.1 ≠ (TJx3cf43 b).2.1 := by decide +kernel
theorem tyJx3cf43_ok : ∀ k, k < 0 → parseFieldDescriptor (TJx3cf43 k).2.2.1 = some (tyJx3cf43 k) := by decide +kernel
def RJ7 : String := "java/util/Arrays"
def TJ7 : u_T := fun k => match k with
  | _ => ("", "", "", false)
def tyJ7 : Nat → FieldType := fun k => match k with
  | _ => .int
abbrev wsJ70 : List Cond := u_ws RJ7 TJ7 0
theorem nmJ7 : ∀ a, a < 0 → ∀ b, b < 0 → a ≠ b → (TJ7 a).2.1 ≠ (TJ7 b).2.1 := by decide +kernel
theorem tyJ7_ok : ∀ k, k < 0 → parseFieldDescriptor (TJ7 k).2.2.1 = some (tyJ7 k) := by decide +kernel
abbrev cJ7_fill_d0a16 : ByteArray := prog_21_method_101_code
def yJ7_fill_d0a16 : MethodName := ⟨RJ7, "fill", "([JJ)V"⟩
abbrev cJ7_fill_53178 : ByteArray := prog_21_method_103_code
def yJ7_fill_53178 : MethodName := ⟨RJ7, "fill", "([II)V"⟩
def RJ3 : String := "jdk/internal/util/Preconditions"
def TJ3 : u_T := fun k => match k with
  | _ => ("", "", "", false)
def tyJ3 : Nat → FieldType := fun k => match k with
  | _ => .int
abbrev wsJ30 : List Cond := u_ws RJ3 TJ3 0
theorem nmJ3 : ∀ a, a < 0 → ∀ b, b < 0 → a ≠ b → (TJ3 a).2.1 ≠ (TJ3 b).2.1 := by decide +kernel
theorem tyJ3_ok : ∀ k, k < 0 → parseFieldDescriptor (TJ3 k).2.2.1 = some (tyJ3 k) := by decide +kernel
abbrev cJ3_checkIndex_8e157 : ByteArray := prog_22_method_11_code
def yJ3_checkIndex_8e157 : MethodName := ⟨RJ3, "checkIndex", "(IILjava/util/function/BiFunction;)I"⟩
def RL : String := "GooseBorderLaw"
abbrev cL_law : ByteArray := code
def yL_law : MethodName := ⟨RL, "law", "([I)Z"⟩
abbrev vwCl : List vw_C := [(RX0, TX0, 1), (RX1, TX1, 4), (RX2, TX2, 6), (RX3, TX3, 4), (RX5, TX5, 4), (RX6, TX6, 12), (RX7, TX7, 6), (RX8, TX8, 11), (RX10, TX10, 9), (RX11, TX11, 10), (RX12, TX12, 44)]
end
section
/-! WHAT HOLDS OF EVERY STATE: classes, array classes, words of nest mates, statics that nobody writes -/
def gb_TY (cT : Nat → ClassId) : List (ClassId × FieldType) := [(cT 0, .int), (cT 1, .byte), (cT 2, .boolean), (cT 3, .long), (cT 4, .object "GooseBorder$Border"), (cT 5, .object "GooseBorder$Night"), (cT 6, .object "GooseBorder$Law"), (cT 7, .object "GooseBorder$Dawn"), (cT 8, .object "GooseBorder$Told"), (cT 9, .object "GooseBorder$Sheet")]
def gb_ge (b : Nat) : Nat → Prop := fun q => b ≤ q
def gb_fr (b n : Nat) : Nat → Prop := fun q => b ≤ q ∧ q < b + n
def gb_aC : List String := ["GooseBorder$Border", "GooseBorder$Night", "GooseBorder$Law", "GooseBorder$Dawn", "GooseBorder$Told", "GooseBorder$Sheet"]
def gb_f0 (k : Nat) : Value := .int (([0, 3, 12, 17, 18] : List Int32).getD k 0)
def gb_f1 (k : Nat) : Value := .int (([3, 5, 1, 2, 2, 2, 3, 2, 1, 0, 0, 1, 1, 2, 2, 1, 1, 2] : List Int32).getD k 0)
def gb_f2 (k : Nat) : Value := .int (([20, 9, 9, 0, 0, 4, 4, 60, 1, 99, 999, 0, 0, 0, 0, 7, 4, 0, 0, 0, 7, 4, 0, 0, 0, 7, 4, 0, 0, 0, 7, 7, 4, 0, 0, 7, 60, 0, 0, 0, 10, 0, 0, 0, 0, 0, 0, 0, 0, 0, 0, 0, 0, 0, 0, 4, 0, 0, 0, 0, 9, 0, 0, 0, 0, 999, 99, 0, 0, 0, 999, 99, 0, 0, 0, 99, 0, 0, 0, 0, 999, 0, 0, 0, 0, 4, 999, 0, 0, 0] : List Int32).getD k 0)
def gb_nW : List Cond := [(Cond.methodLinkNest "GooseBorder" (11 : Nat) ({ cls := "GooseBorder$Told", name := "<init>", desc := "()V" } : MethodName) "GooseBorder"), (Cond.fieldLinkNest "GooseBorder$Night" (3 : Nat) "GooseBorder" "FIRST_LINE" "[I" "GooseBorder"), (Cond.fieldLinkNest "GooseBorder$Law" (3 : Nat) "GooseBorder" "FIRST_LINE" "[I" "GooseBorder"), (Cond.fieldLinkNest "GooseBorder$Dawn" (3 : Nat) "GooseBorder" "FIRST_LINE" "[I" "GooseBorder"), (Cond.methodLinkNest "GooseBorder" (48 : Nat) ({ cls := "GooseBorder$Reader", name := "<init>", desc := "()V" } : MethodName) "GooseBorder"), (Cond.methodLinkNest "GooseBorder" (55 : Nat) ({ cls := "GooseBorder$Play", name := "<init>", desc := "()V" } : MethodName) "GooseBorder"), (Cond.methodLinkNest "GooseBorder" (62 : Nat) ({ cls := "GooseBorder$Sharing", name := "<init>", desc := "()V" } : MethodName) "GooseBorder"), (Cond.methodLinkNest "GooseBorder" (69 : Nat) ({ cls := "GooseBorder$Flocks", name := "<init>", desc := "()V" } : MethodName) "GooseBorder"), (Cond.declares ({ cls := "GooseBorder$Sheet", name := "clear", desc := "()V" } : MethodName)), (Cond.fieldLinkNest "GooseBorder$Reader" (77 : Nat) "GooseBorder" "FIRST_LINE" "[I" "GooseBorder"), (Cond.declares ({ cls := "GooseBorder$Sheet", name := "hasRoomFor", desc := "(I)Z" } : MethodName)), (Cond.fieldLinkNest "GooseBorder$Reader" (66 : Nat) "GooseBorder" "NUMBERS" "[I" "GooseBorder"), (Cond.fieldLinkNest "GooseBorder$Reader" (101 : Nat) "GooseBorder" "BOUNDS" "[I" "GooseBorder"), (Cond.declares ({ cls := "GooseBorder$Sheet", name := "addLine", desc := "(I[I)V" } : MethodName)), (Cond.fieldLinkNest "GooseBorder$Lines" (33 : Nat) "GooseBorder" "NUMBERS" "[I" "GooseBorder"), (Cond.declares ({ cls := "GooseBorder$Sheet", name := "clashes", desc := "()Z" } : MethodName)), (Cond.declares ({ cls := "GooseBorder$Lines", name := "size", desc := "()I" } : MethodName)), (Cond.declares ({ cls := "GooseBorder$Lines", name := "cell", desc := "(II)I" } : MethodName)), (Cond.declares ({ cls := "GooseBorder$Lines", name := "kind", desc := "(I)I" } : MethodName)), (Cond.declares ({ cls := "GooseBorder$Sheet", name := "copyFrom", desc := "(LGooseBorder$Sheet;)V" } : MethodName)), (Cond.castable "GooseBorder$Border" "GooseBorder$Sheet"), (Cond.castable "GooseBorder$Night" "GooseBorder$Sheet"), (Cond.castable "GooseBorder$Law" "GooseBorder$Sheet"), (Cond.castable "GooseBorder$Dawn" "GooseBorder$Sheet")]
theorem gb_nW_in : ∀ w ∈ gb_nW, w ∈ lw_tbl := List.forall_mem_cons.mpr ⟨List.mem_append_right _ (gb_tt1 (i := 32) rfl), List.forall_mem_cons.mpr ⟨List.mem_append_right _ (gb_tt1 (i := 66) rfl), List.forall_mem_cons.mpr ⟨List.mem_append_right _ (gb_tt1 (i := 92) rfl), List.forall_mem_cons.mpr ⟨List.mem_append_right _ (gb_tt1 (i := 105) rfl), List.forall_mem_cons.mpr ⟨List.mem_append_right _ (gb_tt1 (i := 163) rfl), List.forall_mem_cons.mpr ⟨List.mem_append_right _ (gb_tt1 (i := 191) rfl), List.forall_mem_cons.mpr ⟨List.mem_append_right _ (gb_tt2 (i := 5) rfl), List.forall_mem_cons.mpr ⟨List.mem_append_right _ (gb_tt2 (i := 50) rfl), List.forall_mem_cons.mpr ⟨List.mem_append_right _ (gb_tt2 (i := 130) rfl), List.forall_mem_cons.mpr ⟨List.mem_append_right _ (gb_tt2 (i := 152) rfl), List.forall_mem_cons.mpr ⟨List.mem_append_right _ (gb_tt2 (i := 227) rfl), List.forall_mem_cons.mpr ⟨List.mem_append_right _ (gb_tt3 (i := 16) rfl), List.forall_mem_cons.mpr ⟨List.mem_append_right _ (gb_tt3 (i := 26) rfl), List.forall_mem_cons.mpr ⟨List.mem_append_right _ (gb_tt3 (i := 29) rfl), List.forall_mem_cons.mpr ⟨List.mem_append_right _ (gb_tt3 (i := 42) rfl), List.forall_mem_cons.mpr ⟨List.mem_append_right _ (gb_tt3 (i := 46) rfl), List.forall_mem_cons.mpr ⟨List.mem_append_right _ (gb_tt3 (i := 56) rfl), List.forall_mem_cons.mpr ⟨List.mem_append_right _ (gb_tt3 (i := 64) rfl), List.forall_mem_cons.mpr ⟨List.mem_append_right _ (gb_tt3 (i := 207) rfl), List.forall_mem_cons.mpr ⟨List.mem_append_right _ (gb_tt4 (i := 154) rfl), List.forall_mem_cons.mpr ⟨List.mem_append_right _ (gb_tt8 (i := 54) rfl), List.forall_mem_cons.mpr ⟨List.mem_append_right _ (gb_tt8 (i := 55) rfl), List.forall_mem_cons.mpr ⟨List.mem_append_right _ (gb_tt8 (i := 56) rfl), List.forall_mem_cons.mpr ⟨List.mem_append_right _ (gb_tt8 (i := 57) rfl), fun _ h => absurd h List.not_mem_nil⟩⟩⟩⟩⟩⟩⟩⟩⟩⟩⟩⟩⟩⟩⟩⟩⟩⟩⟩⟩⟩⟩⟩⟩
theorem gb_nW_warm : ∀ w ∈ gb_nW, ∀ s U : State, s.WarmedH U.vm → va_Nw w s → va_Nw w U := List.forall_mem_cons.mpr ⟨fun _ _ hW h => va_Nw.warmM hW h, List.forall_mem_cons.mpr ⟨fun _ _ hW h => va_Nw.warmF hW h, List.forall_mem_cons.mpr ⟨fun _ _ hW h => va_Nw.warmF hW h, List.forall_mem_cons.mpr ⟨fun _ _ hW h => va_Nw.warmF hW h, List.forall_mem_cons.mpr ⟨fun _ _ hW h => va_Nw.warmM hW h, List.forall_mem_cons.mpr ⟨fun _ _ hW h => va_Nw.warmM hW h, List.forall_mem_cons.mpr ⟨fun _ _ hW h => va_Nw.warmM hW h, List.forall_mem_cons.mpr ⟨fun _ _ hW h => va_Nw.warmM hW h, List.forall_mem_cons.mpr ⟨fun _ _ hW h => va_Nw.warmD hW h, List.forall_mem_cons.mpr ⟨fun _ _ hW h => va_Nw.warmF hW h, List.forall_mem_cons.mpr ⟨fun _ _ hW h => va_Nw.warmD hW h, List.forall_mem_cons.mpr ⟨fun _ _ hW h => va_Nw.warmF hW h, List.forall_mem_cons.mpr ⟨fun _ _ hW h => va_Nw.warmF hW h, List.forall_mem_cons.mpr ⟨fun _ _ hW h => va_Nw.warmD hW h, List.forall_mem_cons.mpr ⟨fun _ _ hW h => va_Nw.warmF hW h, List.forall_mem_cons.mpr ⟨fun _ _ hW h => va_Nw.warmD hW h, List.forall_mem_cons.mpr ⟨fun _ _ hW h => va_Nw.warmD hW h, List.forall_mem_cons.mpr ⟨fun _ _ hW h => va_Nw.warmD hW h, List.forall_mem_cons.mpr ⟨fun _ _ hW h => va_Nw.warmD hW h, List.forall_mem_cons.mpr ⟨fun _ _ hW h => va_Nw.warmD hW h, List.forall_mem_cons.mpr ⟨fun _ _ hW h => va_Nw.warmC hW h, List.forall_mem_cons.mpr ⟨fun _ _ hW h => va_Nw.warmC hW h, List.forall_mem_cons.mpr ⟨fun _ _ hW h => va_Nw.warmC hW h, List.forall_mem_cons.mpr ⟨fun _ _ hW h => va_Nw.warmC hW h, fun _ h => absurd h List.not_mem_nil⟩⟩⟩⟩⟩⟩⟩⟩⟩⟩⟩⟩⟩⟩⟩⟩⟩⟩⟩⟩⟩⟩⟩⟩
theorem gb_nW_on : ∀ w ∈ gb_nW, w.onTables = true := List.forall_mem_cons.mpr ⟨rfl, List.forall_mem_cons.mpr ⟨rfl, List.forall_mem_cons.mpr ⟨rfl, List.forall_mem_cons.mpr ⟨rfl, List.forall_mem_cons.mpr ⟨rfl, List.forall_mem_cons.mpr ⟨rfl, List.forall_mem_cons.mpr ⟨rfl, List.forall_mem_cons.mpr ⟨rfl, List.forall_mem_cons.mpr ⟨rfl, List.forall_mem_cons.mpr ⟨rfl, List.forall_mem_cons.mpr ⟨rfl, List.forall_mem_cons.mpr ⟨rfl, List.forall_mem_cons.mpr ⟨rfl, List.forall_mem_cons.mpr ⟨rfl, List.forall_mem_cons.mpr ⟨rfl, List.forall_mem_cons.mpr ⟨rfl, List.forall_mem_cons.mpr ⟨rfl, List.forall_mem_cons.mpr ⟨rfl, List.forall_mem_cons.mpr ⟨rfl, List.forall_mem_cons.mpr ⟨rfl, List.forall_mem_cons.mpr ⟨rfl, List.forall_mem_cons.mpr ⟨rfl, List.forall_mem_cons.mpr ⟨rfl, List.forall_mem_cons.mpr ⟨rfl, fun _ h => absurd h List.not_mem_nil⟩⟩⟩⟩⟩⟩⟩⟩⟩⟩⟩⟩⟩⟩⟩⟩⟩⟩⟩⟩⟩⟩⟩⟩
theorem gb_n32 : (Cond.methodLinkNest "GooseBorder" (11 : Nat) ({ cls := "GooseBorder$Told", name := "<init>", desc := "()V" } : MethodName) "GooseBorder") ∈ gb_nW := List.mem_of_getElem? (i := 0) rfl
theorem gb_n66 : (Cond.fieldLinkNest "GooseBorder$Night" (3 : Nat) "GooseBorder" "FIRST_LINE" "[I" "GooseBorder") ∈ gb_nW := List.mem_of_getElem? (i := 1) rfl
theorem gb_n92 : (Cond.fieldLinkNest "GooseBorder$Law" (3 : Nat) "GooseBorder" "FIRST_LINE" "[I" "GooseBorder") ∈ gb_nW := List.mem_of_getElem? (i := 2) rfl
theorem gb_n105 : (Cond.fieldLinkNest "GooseBorder$Dawn" (3 : Nat) "GooseBorder" "FIRST_LINE" "[I" "GooseBorder") ∈ gb_nW := List.mem_of_getElem? (i := 3) rfl
theorem gb_n163 : (Cond.methodLinkNest "GooseBorder" (48 : Nat) ({ cls := "GooseBorder$Reader", name := "<init>", desc := "()V" } : MethodName) "GooseBorder") ∈ gb_nW := List.mem_of_getElem? (i := 4) rfl
theorem gb_n191 : (Cond.methodLinkNest "GooseBorder" (55 : Nat) ({ cls := "GooseBorder$Play", name := "<init>", desc := "()V" } : MethodName) "GooseBorder") ∈ gb_nW := List.mem_of_getElem? (i := 5) rfl
theorem gb_n245 : (Cond.methodLinkNest "GooseBorder" (62 : Nat) ({ cls := "GooseBorder$Sharing", name := "<init>", desc := "()V" } : MethodName) "GooseBorder") ∈ gb_nW := List.mem_of_getElem? (i := 6) rfl
theorem gb_n290 : (Cond.methodLinkNest "GooseBorder" (69 : Nat) ({ cls := "GooseBorder$Flocks", name := "<init>", desc := "()V" } : MethodName) "GooseBorder") ∈ gb_nW := List.mem_of_getElem? (i := 7) rfl
theorem gb_n370 : (Cond.declares ({ cls := "GooseBorder$Sheet", name := "clear", desc := "()V" } : MethodName)) ∈ gb_nW := List.mem_of_getElem? (i := 8) rfl
theorem gb_n392 : (Cond.fieldLinkNest "GooseBorder$Reader" (77 : Nat) "GooseBorder" "FIRST_LINE" "[I" "GooseBorder") ∈ gb_nW := List.mem_of_getElem? (i := 9) rfl
theorem gb_n467 : (Cond.declares ({ cls := "GooseBorder$Sheet", name := "hasRoomFor", desc := "(I)Z" } : MethodName)) ∈ gb_nW := List.mem_of_getElem? (i := 10) rfl
theorem gb_n496 : (Cond.fieldLinkNest "GooseBorder$Reader" (66 : Nat) "GooseBorder" "NUMBERS" "[I" "GooseBorder") ∈ gb_nW := List.mem_of_getElem? (i := 11) rfl
theorem gb_n506 : (Cond.fieldLinkNest "GooseBorder$Reader" (101 : Nat) "GooseBorder" "BOUNDS" "[I" "GooseBorder") ∈ gb_nW := List.mem_of_getElem? (i := 12) rfl
theorem gb_n509 : (Cond.declares ({ cls := "GooseBorder$Sheet", name := "addLine", desc := "(I[I)V" } : MethodName)) ∈ gb_nW := List.mem_of_getElem? (i := 13) rfl
theorem gb_n522 : (Cond.fieldLinkNest "GooseBorder$Lines" (33 : Nat) "GooseBorder" "NUMBERS" "[I" "GooseBorder") ∈ gb_nW := List.mem_of_getElem? (i := 14) rfl
theorem gb_n526 : (Cond.declares ({ cls := "GooseBorder$Sheet", name := "clashes", desc := "()Z" } : MethodName)) ∈ gb_nW := List.mem_of_getElem? (i := 15) rfl
theorem gb_n536 : (Cond.declares ({ cls := "GooseBorder$Lines", name := "size", desc := "()I" } : MethodName)) ∈ gb_nW := List.mem_of_getElem? (i := 16) rfl
theorem gb_n544 : (Cond.declares ({ cls := "GooseBorder$Lines", name := "cell", desc := "(II)I" } : MethodName)) ∈ gb_nW := List.mem_of_getElem? (i := 17) rfl
theorem gb_n687 : (Cond.declares ({ cls := "GooseBorder$Lines", name := "kind", desc := "(I)I" } : MethodName)) ∈ gb_nW := List.mem_of_getElem? (i := 18) rfl
theorem gb_n874 : (Cond.declares ({ cls := "GooseBorder$Sheet", name := "copyFrom", desc := "(LGooseBorder$Sheet;)V" } : MethodName)) ∈ gb_nW := List.mem_of_getElem? (i := 19) rfl
theorem gb_n1734 : (Cond.castable "GooseBorder$Border" "GooseBorder$Sheet") ∈ gb_nW := List.mem_of_getElem? (i := 20) rfl
theorem gb_n1735 : (Cond.castable "GooseBorder$Night" "GooseBorder$Sheet") ∈ gb_nW := List.mem_of_getElem? (i := 21) rfl
theorem gb_n1736 : (Cond.castable "GooseBorder$Law" "GooseBorder$Sheet") ∈ gb_nW := List.mem_of_getElem? (i := 22) rfl
theorem gb_n1737 : (Cond.castable "GooseBorder$Dawn" "GooseBorder$Sheet") ∈ gb_nW := List.mem_of_getElem? (i := 23) rfl
def gb_St (D : va_G) (cT : Nat → ClassId) (tt : Nat → Nat) (b1 : Nat) (U : State) : Prop :=
  va_K D vwCl (gb_TY cT) U ∧ (∀ w ∈ gb_nW, va_Nw w U) ∧ (∀ C ∈ gb_aC, va_AO C U) ∧
  (va_Z "GooseBorder" "FIRST_LINE" "[I" (.ref (tt 0)) (gb_ge b1) U U.heap ∧ va_T .int (tt 0) 5 gb_f0 (gb_ge b1) U U.heap) ∧
  (va_Z "GooseBorder" "NUMBERS" "[I" (.ref (tt 1)) (gb_ge b1) U U.heap ∧ va_T .int (tt 1) 18 gb_f1 (gb_ge b1) U U.heap) ∧
  (va_Z "GooseBorder" "BOUNDS" "[I" (.ref (tt 2)) (gb_ge b1) U U.heap ∧ va_T .int (tt 2) 90 gb_f2 (gb_ge b1) U U.heap)
section GBS
variable {D : va_G} {cT : Nat → ClassId} {tt : Nat → Nat} {b1 : Nat}
theorem gb_St.calling {U : State} (h : gb_St D cT tt b1 U) (g : JFrame) (mk : MethodId) (a : Array Value) : gb_St D cT tt b1 (U.calling g mk a) := by
  obtain ⟨h1, h2, h3, ⟨h4, h5⟩, ⟨h6, h7⟩, ⟨h8, h9⟩⟩ := h
  exact ⟨va_K.moved (u := U) (U := U.calling g mk a) (Vm.Alike.refl U.vm) h1, fun w hw => va_Nw.same (u := U) (U := U.calling g mk a) (gb_nW_on w hw) rfl (h2 w hw), fun C hC => va_AO.moved (U := U.calling g mk a) (Vm.Alike.refl U.vm) (h3 C hC), ⟨va_Z.moved (U := U.calling g mk a) (Vm.Alike.refl U.vm) h4, va_T.moved (U := U.calling g mk a) (Vm.Alike.refl U.vm) h5⟩, ⟨va_Z.moved (U := U.calling g mk a) (Vm.Alike.refl U.vm) h6, va_T.moved (U := U.calling g mk a) (Vm.Alike.refl U.vm) h7⟩, ⟨va_Z.moved (U := U.calling g mk a) (Vm.Alike.refl U.vm) h8, va_T.moved (U := U.calling g mk a) (Vm.Alike.refl U.vm) h9⟩⟩
theorem gb_St.warm {s U : State} {A : Nat → Prop} {H : Heap} {locs : List Loc} (h : gb_St D cT tt b1 s) (hW : s.WarmedH U.vm) (hS : va_S A s.heap H locs) (hA : ∀ q, A q → b1 ≤ q) (hU : U.heap = H) : gb_St D cT tt b1 U := by
  have hk : ∀ a : Nat, a < s.heap.size → ¬ gb_ge b1 a → U.heap[a]? = s.heap[a]? := fun a h1 h2 => by rw [hU]; exact hS.2.1 a h1 (fun z => h2 (hA a z))
  obtain ⟨h1, h2, h3, ⟨h4, h5⟩, ⟨h6, h7⟩, ⟨h8, h9⟩⟩ := h
  exact ⟨h1.moved hW.alike, fun w hw => gb_nW_warm w hw s U hW (h2 w hw), fun C hC => (h3 C hC).moved hW.alike, ⟨(h4.kept hk).moved hW.alike, (h5.kept hk).moved hW.alike⟩, ⟨(h6.kept hk).moved hW.alike, (h7.kept hk).moved hW.alike⟩, ⟨(h8.kept hk).moved hW.alike, (h9.kept hk).moved hW.alike⟩⟩
end GBS
/-- a method's start and its ends, over heaps -/
def gb_Pc (D : va_G) (cT : Nat → ClassId) (tt : Nat → Nat) (b1 : Nat) (av : List Value) (X : Heap → Prop) : Array Value → State → Prop := va_Pc av (fun U => gb_St D cT tt b1 U ∧ X U.heap)
def gb_Qi (Y : Int32 → Heap → Prop) (A : Nat → Prop) : Array Value → State → Outcome → State → Prop := va_Qi (fun r (u : Int32) => u = r) (fun u t => Y u t.heap) A
def gb_Ql (Y : Int64 → Heap → Prop) (A : Nat → Prop) : Array Value → State → Outcome → State → Prop := va_Ql (fun r (u : Int64) => u = r) (fun u t => Y u t.heap) A
def gb_Qv (Y : Heap → Prop) (A : Nat → Prop) : Array Value → State → Outcome → State → Prop := va_Qv (fun _ : Unit => True) (fun _ t => Y t.heap) A
def gb_Qq (Y : Option Nat → Heap → Prop) (A : Nat → Prop) : Array Value → State → Outcome → State → Prop := va_Qq (fun r (u : Option Nat) => u = r) (fun u t => Y u t.heap) A
theorem gb_rv {Y : Heap → Prop} {A : Nat → Prop} {a : Array Value} {s t : State} {H : Heap} {locs : List Loc} (ht : t.heap = H) (hY : Y H) (hS : va_S A s.heap H locs) : gb_Qv Y A a s (.returned none) t := ⟨⟨(), rfl, trivial, by show Y t.heap; rw [ht]; exact hY⟩, hS.F ht⟩
theorem gb_ri {Y : Int32 → Heap → Prop} {A : Nat → Prop} {a : Array Value} {s t : State} {H : Heap} {locs : List Loc} {v : Int32} (ht : t.heap = H) (hY : Y v H) (hS : va_S A s.heap H locs) : gb_Qi Y A a s (.returned (some (.int v))) t := ⟨⟨v, v, rfl, rfl, by show Y v t.heap; rw [ht]; exact hY⟩, hS.F ht⟩
theorem gb_rl {Y : Int64 → Heap → Prop} {A : Nat → Prop} {a : Array Value} {s t : State} {H : Heap} {locs : List Loc} {v : Int64} (ht : t.heap = H) (hY : Y v H) (hS : va_S A s.heap H locs) : gb_Ql Y A a s (.returned (some (.long v))) t := ⟨⟨v, v, rfl, rfl, by show Y v t.heap; rw [ht]; exact hY⟩, hS.F ht⟩
theorem gb_rq {Y : Option Nat → Heap → Prop} {A : Nat → Prop} {a : Array Value} {s t : State} {H : Heap} {locs : List Loc} (v : Option Nat) (ht : t.heap = H) (hY : Y v H) (hS : va_S A s.heap H locs) : gb_Qq Y A a s (.returned (some (va_rf v))) t := ⟨⟨v, v, rfl, rfl, by show Y v t.heap; rw [ht]; exact hY⟩, hS.F ht⟩
theorem gb_blind {D : va_G} {cT : Nat → ClassId} {tt : Nat → Nat} {b1 : Nat} {av : List Value} {X : Heap → Prop} : FrameBlind (gb_Pc D cT tt b1 av X) := fun a U g mk h => ⟨h.1, h.2.1.calling g mk a, h.2.2⟩
theorem gb_preV {D : va_G} {cT : Nat → ClassId} {tt : Nat → Nat} {b1 : Nat} {s : State} {H : Heap} {A : Nat → Prop} {locs : List Loc} {ws : va_W} {a ci q0 : Nat} {r : vw_C} {fs : List Value} {X : Heap → Prop} {As : List Value} (hSt : gb_St D cT tt b1 s) (hP : va_P D vwCl ws H) (hc : vwCl[ci]? = some r) (he : ws[q0]? = some (a, .inr (ci, fs))) (hS : va_S A s.heap H locs) (hA : ∀ q, A q → b1 ≤ q) (hX : X H) : PreV s H r.1 a (gb_Pc D cT tt b1 (.ref a :: As) X) As :=
  ⟨gb_blind, va_recv hSt.1 hP hc he, fun U hU hW => ⟨rfl, hSt.warm hW hS hA hU, by rw [hU]; exact hX⟩⟩
theorem gb_preS {D : va_G} {cT : Nat → ClassId} {tt : Nat → Nat} {b1 : Nat} {s : State} {H : Heap} {A : Nat → Prop} {locs : List Loc} {X : Heap → Prop} {As : List Value} (hSt : gb_St D cT tt b1 s) (hS : va_S A s.heap H locs) (hA : ∀ q, A q → b1 ≤ q) (hX : X H) : PreS s H (gb_Pc D cT tt b1 As X) As :=
  ⟨gb_blind, fun U hU hW => ⟨rfl, hSt.warm hW hS hA hU, by rw [hU]; exact hX⟩⟩
theorem gb_gV {own C : String} {idx : Nat} {y : MethodName} {c0 : Cond} (h1 : Cond.methodLink own idx y ∈ gb_wA) (h2 : Cond.instanceMethod y ∈ gb_wA) (h3 : Cond.selects C y y ∈ gb_wA) (h4 : Cond.initialized C ∈ gb_wA) (h5 : c0 ∈ gb_wA) : GoodIn gb_wA (wsV own idx C y (c0 :: gb_wA)) := by
  have key : ∀ w ∈ wsV own idx C y (c0 :: gb_wA), w ∈ gb_wA := by
    intro w h
    simp only [wsV, List.cons_append, List.nil_append, List.mem_cons] at h
    rcases h with h | h | h | h | h | h
    · rw [h]; exact h1
    · rw [h]; exact h2
    · rw [h]; exact h3
    · rw [h]; exact h4
    · rw [h]; exact h5
    · exact h
  exact fun w h => gb_good (fun _ h => h) w (key w h)
theorem gb_gS {own : String} {idx : Nat} {y : MethodName} {c0 : Cond} (h1 : Cond.methodLink own idx y ∈ gb_wA) (h2 : Cond.static y ∈ gb_wA) (h4 : Cond.initialized y.cls ∈ gb_wA) (h5 : c0 ∈ gb_wA) : GoodIn gb_wA (va_wsS own idx y (c0 :: gb_wA)) := by
  have key : ∀ w ∈ va_wsS own idx y (c0 :: gb_wA), w ∈ gb_wA := by
    intro w h
    simp only [va_wsS, List.cons_append, List.nil_append, List.mem_cons] at h
    rcases h with h | h | h | h | h
    · rw [h]; exact h1
    · rw [h]; exact h2
    · rw [h]; exact h4
    · rw [h]; exact h5
    · exact h
  exact fun w h => gb_good (fun _ h => h) w (key w h)
theorem gb_gI {c0 : Cond} (h5 : c0 ∈ gb_wA) : GoodIn gb_wA (c0 :: gb_wA) := gb_goodc (fun _ h => h) h5
theorem gb_in {i : Int32} {n : Nat} (h : decide (¬ (i < 0 ∨ n ≤ i.toNatClampNeg)) = true) : vp_in i n := by
  unfold vp_in
  exact of_decide_eq_true h
/-- a block is cut at a place, and glued again -/
theorem gb_drop {D : va_G} {cl : List vw_C} {b : Nat} {cs suf : List va_E} {H : Heap} (h : va_P D cl (gb_wl b cs) H) (k : Nat) (hs : cs.drop k = suf) (hk : (cs.take k).length = k) : va_P D cl (gb_wl (b + k) suf) H := by
  rw [← List.take_append_drop k cs, gb_app, hk] at h
  rw [← hs]
  intro j q hj
  refine h ((gb_wl b (cs.take k)).length + j) q ?_
  rw [List.getElem?_append_right (by omega), show (gb_wl b (cs.take k)).length + j - (gb_wl b (cs.take k)).length = j by omega]
  exact hj
theorem gb_glue {D : va_G} {cl : List vw_C} {b : Nat} {cs pre post : List va_E} {H H1 : Heap} (h : va_P D cl (gb_wl b cs) H) (k : Nat) (hp : cs.take k = pre) (hk : pre.length = k) (hkeep : ∀ q, q < H.size → ¬ gb_ge (b + k) q → H1[q]? = H[q]?) (h1 : va_P D cl (gb_wl (b + k) post) H1) : va_P D cl (gb_wl b (pre ++ post)) H1 := by
  rw [gb_app, hk]
  refine va_P.app (fun j q hj => ?_) h1
  have h9 := gb_of hj
  have hlt : j < pre.length := (List.getElem?_eq_some_iff.mp h9.2).1
  have hc : cs[j]? = some q.2 := by
    rw [← hp] at h9
    rw [← h9.2, List.getElem?_take, if_pos (by omega)]
  have hq : (gb_wl b cs)[j]? = some q := by
    rw [gb_get, hc]
    show some (b + j, q.2) = some q
    rw [← h9.1]
  refine (h j q hq).kept (hkeep _ ((h j q hq).lt) (fun z => ?_))
  have : b + k ≤ q.1 := z
  omega
section GBC
variable {p : Program} {l : Launch} {e : Env} {R : Room} {s : State} {m : MethodId} {args : Array Value} {below : List Frame} {meth : Method} {c : Code} {H : Heap} {locs : List Loc} {cells slots : Nat} {Q : State → Prop}
variable {pc : Nat} {ls : Array Slot} {rest st0 : List Value} {a : Array Value} {A0 A1 : Nat → Prop} {H0 : Heap} {mc ms : Nat} {free : Addr → Prop}
theorem gb_calli {Y : Int32 → Heap → Prop} (hr : va_Run p l e R s m args below meth c H locs cells slots mc ms (F0 m pc ls st0) rest (gb_Qi Y A1 a) free) (hS : va_S A0 H0 H locs) (hA : ∀ q, A1 q → A0 q) (hf : ∀ q, free q → A0 q)
    (kk : ∀ (r : Int32) (H1 : Heap) (locs1 : List Loc), Y r H1 → (∀ q : Nat, q < H.size → ¬ A1 q → H1[q]? = H[q]?) → va_S A0 H0 H1 locs1 → W p l e R s m args below meth c H1 locs1 (cells + mc) (slots + ms) Q (F0 m (pc + 3) ls (.int r :: rest))) : W p l e R s m args below meth c H locs cells slots Q (F0 m pc ls st0) :=
  va_calli hr hS (fun q _ h => hA q h) hf (fun r u t H1 locs1 ht _ hw hB _ hk1 hS1 => kk r H1 locs1 (by have hw2 : u = r := hw; subst hw2; rw [← ht]; exact hB) hk1 hS1)
theorem gb_calll {Y : Int64 → Heap → Prop} (hr : va_Run p l e R s m args below meth c H locs cells slots mc ms (F0 m pc ls st0) rest (gb_Ql Y A1 a) free) (hS : va_S A0 H0 H locs) (hA : ∀ q, A1 q → A0 q) (hf : ∀ q, free q → A0 q)
    (kk : ∀ (r : Int64) (H1 : Heap) (locs1 : List Loc), Y r H1 → (∀ q : Nat, q < H.size → ¬ A1 q → H1[q]? = H[q]?) → va_S A0 H0 H1 locs1 → W p l e R s m args below meth c H1 locs1 (cells + mc) (slots + ms) Q (F0 m (pc + 3) ls (.long r :: rest))) : W p l e R s m args below meth c H locs cells slots Q (F0 m pc ls st0) :=
  va_calll hr hS (fun q _ h => hA q h) hf (fun r u t H1 locs1 ht _ hw hB _ hk1 hS1 => kk r H1 locs1 (by have hw2 : u = r := hw; subst hw2; rw [← ht]; exact hB) hk1 hS1)
theorem gb_callv {Y : Heap → Prop} (hr : va_Run p l e R s m args below meth c H locs cells slots mc ms (F0 m pc ls st0) rest (gb_Qv Y A1 a) free) (hS : va_S A0 H0 H locs) (hA : ∀ q, A1 q → A0 q) (hf : ∀ q, free q → A0 q)
    (kk : ∀ (H1 : Heap) (locs1 : List Loc), Y H1 → (∀ q : Nat, q < H.size → ¬ A1 q → H1[q]? = H[q]?) → va_S A0 H0 H1 locs1 → W p l e R s m args below meth c H1 locs1 (cells + mc) (slots + ms) Q (F0 m (pc + 3) ls rest)) : W p l e R s m args below meth c H locs cells slots Q (F0 m pc ls st0) :=
  va_callv hr hS (fun q _ h => hA q h) hf (fun u t H1 locs1 ht _ hw hB _ hk1 hS1 => kk H1 locs1 (by rw [← ht]; exact hB) hk1 hS1)
theorem gb_callq {Y : Option Nat → Heap → Prop} (hr : va_Run p l e R s m args below meth c H locs cells slots mc ms (F0 m pc ls st0) rest (gb_Qq Y A1 a) free) (hS : va_S A0 H0 H locs) (hA : ∀ q, A1 q → A0 q) (hf : ∀ q, free q → A0 q)
    (kk : ∀ (r : Option Nat) (H1 : Heap) (locs1 : List Loc), Y r H1 → (∀ q : Nat, q < H.size → ¬ A1 q → H1[q]? = H[q]?) → va_S A0 H0 H1 locs1 → W p l e R s m args below meth c H1 locs1 (cells + mc) (slots + ms) Q (F0 m (pc + 3) ls (va_rf r :: rest))) : W p l e R s m args below meth c H locs cells slots Q (F0 m pc ls st0) :=
  va_callq hr hS (fun q _ h => hA q h) hf (fun r u t H1 locs1 ht _ hw hB _ hk1 hS1 => kk r H1 locs1 (by have hw2 : u = r := hw; subst hw2; rw [← ht]; exact hB) hk1 hS1)
end GBC
section GBL
variable {p : Program} {l : Launch} {e : Env} {R : Room} {s : State} {m : MethodId} {args : Array Value} {below : List Frame} {meth : Method} {c : Code} {H : Heap} {locs : List Loc} {cells slots : Nat} {Q : State → Prop}
variable {cc : ByteArray} {pc : Nat} {ls : Array Slot} {rest : List Value} {D : va_G} {cl : List vw_C} {tys : List (ClassId × FieldType)} {ws : va_W} {a : Nat}
theorem gb_iald (hexec : p.tables.exec = Jvm.exec) (hb : c.code = cc) (hK : va_K D cl tys s) (hP : va_P D cl ws H) (q0 t0 : Nat) {cA : ClassId} {n : Nat} {f : Nat → Int32} (ha : ws[q0]? = some (a, .inl (cA, n, .inl f))) (ht : tys[t0]? = some (cA, .int)) {i v : Int32} (hin : vp_in i n) (hv : f i.toNatClampNeg = v) (hdg : decode cc pc = .ok (.iaload, 1))
    (kk : W p l e R s m args below meth c H locs cells slots Q (F0 m (pc + 1) ls (.int v :: rest))) : W p l e R s m args below meth c H locs cells slots Q (F0 m pc ls (.int i :: .ref a :: rest)) := by
  subst hv
  exact va_iald hexec hb hK hP q0 t0 ha ht hin hdg kk
theorem gb_zald (hexec : p.tables.exec = Jvm.exec) (hb : c.code = cc) (hK : va_K D cl tys s) (hP : va_P D cl ws H) (q0 t0 : Nat) {cA : ClassId} {n : Nat} {f : Nat → Int32} (ha : ws[q0]? = some (a, .inl (cA, n, .inl f))) (ht : tys[t0]? = some (cA, .boolean)) {i v : Int32} (hin : vp_in i n) (hv : f i.toNatClampNeg = v) (hdg : decode cc pc = .ok (.baload, 1))
    (kk : W p l e R s m args below meth c H locs cells slots Q (F0 m (pc + 1) ls (.int v :: rest))) : W p l e R s m args below meth c H locs cells slots Q (F0 m pc ls (.int i :: .ref a :: rest)) := by
  subst hv
  exact va_zald hexec hb hK hP q0 t0 ha ht hin hdg kk
theorem gb_aald (hexec : p.tables.exec = Jvm.exec) (hb : c.code = cc) (hK : va_K D cl tys s) (hP : va_P D cl ws H) (q0 t0 : Nat) {cA : ClassId} {C : String} {n : Nat} {f : Nat → Option Nat} (ha : ws[q0]? = some (a, .inl (cA, n, .inr (.inr (.inr (.inr f)))))) (ht : tys[t0]? = some (cA, .object C)) {i : Int32} {v : Value} (hin : vp_in i n) (hv : va_rf (f i.toNatClampNeg) = v) (hdg : decode cc pc = .ok (.aaload, 1))
    (kk : W p l e R s m args below meth c H locs cells slots Q (F0 m (pc + 1) ls (v :: rest))) : W p l e R s m args below meth c H locs cells slots Q (F0 m pc ls (.int i :: .ref a :: rest)) := by
  subst hv
  exact va_aldq hexec hb hK hP q0 t0 ha ht hin hdg kk
end GBL
end
section
theorem dX0_init_0 : decode cX0_init 0 = .ok (.aload_n 0, 1) := by decide +kernel
theorem dX0_init_1 : decode cX0_init 1 = .ok (.bipush 58, 2) := by decide +kernel
theorem dX0_init_3 : decode cX0_init 3 = .ok (.invokespecial 5, 3) := by decide +kernel
theorem dX9_init_0 : decode cX9_init 0 = .ok (.aload_n 0, 1) := by decide +kernel
theorem dX9_init_1 : decode cX9_init 1 = .ok (.invokespecial 1, 3) := by decide +kernel
theorem w_45 : (Cond.methodLink "GooseBorder$Sheet" (1 : Nat) ({ cls := "java/lang/Object", name := "<init>", desc := "()V" } : MethodName)) ∈ gb_wA := gb_t1 45 rfl rfl
theorem w_28 : (Cond.instanceMethod ({ cls := "java/lang/Object", name := "<init>", desc := "()V" } : MethodName)) ∈ gb_wA := gb_t1 28 rfl rfl
theorem w_29 : (Cond.code ({ cls := "java/lang/Object", name := "<init>", desc := "()V" } : MethodName) object_method_1_code (1 : Nat) (Option.none : Option FieldType)) ∈ gb_wA := gb_t1 29 rfl rfl
theorem dX9_init_4 : decode cX9_init 4 = .ok (.aload_n 0, 1) := by decide +kernel
theorem dX9_init_5 : decode cX9_init 5 = .ok (.iconst 1, 1) := by decide +kernel
theorem dX9_init_6 : decode cX9_init 6 = .ok (.iload_n 1, 1) := by decide +kernel
theorem dX9_init_7 : decode cX9_init 7 = .ok (.invokestatic 7, 3) := by decide +kernel
theorem w_46 : (Cond.methodLink "GooseBorder$Sheet" (7 : Nat) ({ cls := "java/lang/Math", name := "max", desc := "(II)I" } : MethodName)) ∈ gb_wA := gb_t1 46 rfl rfl
theorem w_47 : (Cond.static ({ cls := "java/lang/Math", name := "max", desc := "(II)I" } : MethodName)) ∈ gb_wA := gb_t1 47 rfl rfl
theorem w_5 : (Cond.initialized "java/lang/Math") ∈ gb_wA := gb_t1 5 rfl rfl
theorem w_48 : (Cond.code ({ cls := "java/lang/Math", name := "max", desc := "(II)I" } : MethodName) prog_16_method_65_code (2 : Nat) (Option.some FieldType.int)) ∈ gb_wA := gb_t1 48 rfl rfl
theorem dX9_init_10 : decode cX9_init 10 = .ok (.newarray .int, 2) := by decide +kernel
theorem w_59 : (Cond.arrayClass FieldType.int) ∈ gb_wA := gb_t1 59 rfl rfl
theorem dX9_init_12 : decode cX9_init 12 = .ok (.putfield 13, 3) := by decide +kernel
theorem w_56 : (Cond.laysFinal "GooseBorder$Border" "GooseBorder$Sheet" "cells" "[I") ∈ gb_wA := gb_t1 56 rfl rfl
theorem i_X0 : ∀ w ∈ u_ws RX0 TX0 1, w ∈ gb_wA := (List.forall_mem_cons.mpr ⟨w_56, fun _ h => absurd h List.not_mem_nil⟩ : ∀ w ∈ ([Cond.laysFinal "GooseBorder$Border" "GooseBorder$Sheet" "cells" "[I"] : List Cond), w ∈ gb_wA)
theorem w_51 : (Cond.fieldLink "GooseBorder$Sheet" (13 : Nat) "GooseBorder$Sheet" "cells" "[I") ∈ gb_wA := gb_t1 51 rfl rfl
theorem dX9_init_15 : decode cX9_init 15 = .ok (.return_, 1) := by decide +kernel
set_option maxHeartbeats 4000000 in
set_option maxRecDepth 100000 in
theorem k_X9_init (l : Launch) (D : va_G) (cT : Nat → ClassId) (tt : Nat → Nat) (b1 b : Nat) (hb1 : b1 ≤ b) : Met l yX9_init (.code yX9_init cX9_init 2 none :: gb_wA) ({ frames := 1, cells := 1, slots := 58, locals := 14 }) (gb_Pc D cT tt b1 [.ref (b + 0), .int 58] (fun h => va_P D vwCl (gb_wl b [.inr (0, [.null])]) h ∧ Array.size h = b + 1)) (gb_Qv (fun h => va_P D vwCl (gb_wl b [.inr (0, [.ref (b + 1)]), .inl (cT 0, 58, .inl (fun _ => 0))]) h ∧ Array.size h = b + 2) (gb_ge b)) 1 58 (gb_ge b) := by
  refine Met.ofW (cc := cX9_init) (maxL := 2) (ret := none) (by decide) rfl ?_
  intro p e s m args below meth c s₁ B hml hv
  obtain ⟨rfl, hSt, hP, hz⟩ := hv
  have hx := B.exec
  have hb := B.bytes
  have hr := B.returns
  have hts := atoms_spec (ws := .code yX9_init cX9_init 2 none :: gb_wA) B.pre
  have hq : ∀ w ∈ gb_wA, w.before _ s = true := fun w h => hts w (List.mem_cons_of_mem _ h)
  have hown : s.vm.findClass RX9 = some m.cls := findClass_of_methodNamed B.named
  have hlocks := B.notSynchronized
  have hin : meth.name = "<init>" := (name_of_methodNamed B.named B.method).1
  have hK := hSt.1
  have hS : va_S (gb_ge b) s.heap s.heap [] := va_S.rf
  have hl := lv_entry ([.ref (b + 0), .int 58]) (n := 2) (Nat.le_of_ble_eq_true rfl)
  rw [lg_entry_eq]
  generalize (lg_sl ([.ref (b + 0), .int 58]) ++ List.replicate (2 - (lg_sl ([.ref (b + 0), .int 58])).length) Slot.unset).toArray = ls at hl ⊢
  have hl : lv_has ls 2 [(0, .ref (b + 0)), (1, .int 58)] := hl
  refine lv_aload_n hx hb dX9_init_0 rfl (lv_at hl 0 rfl) ?_
  refine W.objInit hx hb hown (hq _ w_45) (hq _ w_28) (hq _ w_29) rfl (by rw [hml]; exact hl.1) rfl dX9_init_1 (Nat.le_of_ble_eq_true rfl) (Nat.le_of_ble_eq_true rfl) ?_
  refine W.eq (g2 := F0 m 4 ls []) rfl ?_
  refine lv_aload_n hx hb dX9_init_4 rfl (lv_at hl 0 rfl) ?_
  refine lv_iconst (v := 1) hx hb dX9_init_5 (by decide) ?_
  refine lv_iload_n hx hb dX9_init_6 rfl (lv_at hl 1 rfl) ?_
  refine va_mmax hx hb (hml.trans hl.1.symm) hown (hq _ w_46) (hq _ w_47) (hq _ w_5) (hq _ w_48) (Nat.le_of_ble_eq_true rfl) (Nat.le_of_ble_eq_true rfl) (Nat.le_of_ble_eq_true rfl) (Nat.le_of_ble_eq_true rfl) dX9_init_7 ?_
  refine W.eq (g2 := F0 m 10 ls [.int 58, .ref (b + 0)]) (congrArg (fun v => F0 m 10 ls (Value.int v :: [.ref (b + 0)])) (by decide)) ?_
  refine gb_newa (atype := .int) (a0 := (58, .inl (fun _ => 0))) hx hb (hq _ w_59) (ty := .int) rfl hK hP hS 1 hz rfl 0 rfl (fun h => h) (fun _ => rfl) (by decide) (by decide) (Nat.le_of_ble_eq_true rfl) (Nat.le_of_ble_eq_true rfl) (Nat.le_of_ble_eq_true rfl) dX9_init_10 (fun H hP hz hS => ?_)
  have hP : va_P D vwCl (gb_wl b [.inr (0, [.null]), .inl (cT 0, 58, .inl (fun _ => 0))]) H := hP
  refine W.widen (k := 1) (n := 58) (Nat.le_of_ble_eq_true rfl) (Nat.le_of_ble_eq_true rfl) ?_
  refine gb_putF (ci := 0) (v := (.ref (b + 1))) (ty := .array .int) (C := RX0) (T := TX0) (N := 1) hx hb hq i_X0 tyX0 tyX0_ok nmX0 hown hK hP (fun k _ => Nat.le_add_right b k) hS hz 0 rfl rfl 0 (by decide) (hq _ w_51) (fun _ h9 => h9) rfl hin rfl (by decide +kernel) rfl rfl (Nat.le_of_ble_eq_true rfl) dX9_init_12 (fun H locs hP hz hS => ?_)
  have hP : va_P D vwCl (gb_wl b [.inr (0, [.ref (b + 1)]), .inl (cT 0, 58, .inl (fun _ => 0))]) H := hP
  exact W.vret hx hb hr (fun t ht hW => gb_rv ht ⟨hP, hz⟩ hS) hS.2.2 dX9_init_15
theorem w_44 : (Cond.code ({ cls := "GooseBorder$Sheet", name := "<init>", desc := "(I)V" } : MethodName) prog_11_method_1_code (2 : Nat) (Option.none : Option FieldType)) ∈ gb_wA := gb_t1 44 rfl rfl
theorem w_3 : (Cond.initialized "GooseBorder$Sheet") ∈ gb_wA := gb_t1 3 rfl rfl
theorem w_42 : (Cond.methodLink "GooseBorder$Border" (5 : Nat) ({ cls := "GooseBorder$Sheet", name := "<init>", desc := "(I)V" } : MethodName)) ∈ gb_wA := gb_t1 42 rfl rfl
theorem w_43 : (Cond.instanceMethod ({ cls := "GooseBorder$Sheet", name := "<init>", desc := "(I)V" } : MethodName)) ∈ gb_wA := gb_t1 43 rfl rfl
theorem dX0_init_6 : decode cX0_init 6 = .ok (.aload_n 0, 1) := by decide +kernel
theorem dX0_init_7 : decode cX0_init 7 = .ok (.getfield 11, 3) := by decide +kernel
theorem w_50 : (Cond.sameField "GooseBorder$Border" "GooseBorder$Sheet" "cells" "[I") ∈ gb_wA := gb_t1 50 rfl rfl
theorem w_49 : (Cond.fieldLink "GooseBorder$Border" (11 : Nat) "GooseBorder$Border" "cells" "[I") ∈ gb_wA := gb_t1 49 rfl rfl
theorem dX0_init_10 : decode cX0_init 10 = .ok (.iconst 2, 1) := by decide +kernel
theorem dX0_init_11 : decode cX0_init 11 = .ok (.iconst (-1), 1) := by decide +kernel
theorem dX0_init_12 : decode cX0_init 12 = .ok (.iastore, 1) := by decide +kernel
theorem dX0_init_13 : decode cX0_init 13 = .ok (.return_, 1) := by decide +kernel
set_option maxHeartbeats 4000000 in
set_option maxRecDepth 100000 in
theorem k_X0_init (l : Launch) (D : va_G) (cT : Nat → ClassId) (tt : Nat → Nat) (b1 b : Nat) (hb1 : b1 ≤ b) : Met l yX0_init (.code yX0_init cX0_init 1 none :: gb_wA) ({ frames := 2, cells := 1, slots := 58, locals := 35 }) (gb_Pc D cT tt b1 [.ref (b + 0)] (fun h => va_P D vwCl (gb_wl b [.inr (0, [.null])]) h ∧ Array.size h = b + 1)) (gb_Qv (fun h => va_P D vwCl (gb_wl b [.inr (0, [.ref (b + 1)]), .inl (cT 0, 58, .inl (upd (fun _ => 0) 2 (-1)))]) h ∧ Array.size h = b + 2) (gb_ge b)) 1 58 (gb_ge b) := by
  refine Met.ofW (cc := cX0_init) (maxL := 1) (ret := none) (by decide) rfl ?_
  intro p e s m args below meth c s₁ B hml hv
  obtain ⟨rfl, hSt, hP, hz⟩ := hv
  have hx := B.exec
  have hb := B.bytes
  have hr := B.returns
  have hts := atoms_spec (ws := .code yX0_init cX0_init 1 none :: gb_wA) B.pre
  have hq : ∀ w ∈ gb_wA, w.before _ s = true := fun w h => hts w (List.mem_cons_of_mem _ h)
  have hown : s.vm.findClass RX0 = some m.cls := findClass_of_methodNamed B.named
  have hlocks := B.notSynchronized
  have hin : meth.name = "<init>" := (name_of_methodNamed B.named B.method).1
  have hK := hSt.1
  have hS : va_S (gb_ge b) s.heap s.heap [] := va_S.rf
  have hl := lv_entry ([.ref (b + 0)]) (n := 1) (Nat.le_of_ble_eq_true rfl)
  rw [lg_entry_eq]
  generalize (lg_sl ([.ref (b + 0)]) ++ List.replicate (1 - (lg_sl ([.ref (b + 0)])).length) Slot.unset).toArray = ls at hl ⊢
  have hl : lv_has ls 1 [(0, .ref (b + 0))] := hl
  refine lv_aload_n hx hb dX0_init_0 rfl (lv_at hl 0 rfl) ?_
  refine lv_bipush (v := 58) hx hb dX0_init_1 (by decide) ?_
  have hPc := gb_drop hP 0 (suf := [.inr (0, [.null])]) rfl rfl
  refine gb_callv (va_runI (As := [.int 58]) (rest := []) ⟨hx, hb, hml, hown, hq⟩ (k_X9_init l D cT tt b1 (b + 0) (Nat.le_trans hb1 (Nat.le_add_right b 0))) (cwI 1 hq (gb_gI w_44) rfl rfl rfl (hq _ w_3) (hq _ w_42) (hq _ w_43) rfl (by decide +kernel) ⟨Nat.le_of_ble_eq_true rfl, Nat.le_of_ble_eq_true rfl⟩) (gb_preS hSt hS (fun q h => Nat.le_trans hb1 h) (show va_P D vwCl (gb_wl (b + 0) [.inr (0, [.null])]) s.heap ∧ Array.size s.heap = b + 0 + 1 from ⟨hPc, hz⟩)) rfl rfl hl.1 rfl (lv_room (Nat.le_of_ble_eq_true rfl)) dX0_init_3 ⟨Nat.le_of_ble_eq_true rfl, Nat.le_of_ble_eq_true rfl⟩) hS (fun q h => Nat.le_trans (Nat.le_add_right b 0) h) (fun q h => Nat.le_trans (Nat.le_add_right b 0) h) (fun H locs hY hk hS => ?_)
  have hP := gb_glue hP 0 (pre := []) rfl rfl hk hY.1
  have hP : va_P D vwCl (gb_wl b [.inr (0, [.ref (b + 1)]), .inl (cT 0, 58, .inl (fun _ => 0))]) H := hP
  have hz : Array.size H = b + 2 := hY.2
  refine W.widen (k := 1) (n := 58) (Nat.le_of_ble_eq_true rfl) (Nat.le_of_ble_eq_true rfl) ?_
  refine lv_aload_n hx hb dX0_init_6 rfl (lv_at hl 0 rfl) ?_
  refine va_get (ci := 0) (v := (.ref (b + 1))) (C := RX0) (T := TX0) (N := 1) hx hb hq i_X0 hown hK hP 0 (gb_at b rfl) rfl 0 (by decide) (hq _ w_49) (fun x9 h9 => u_same (hq _ w_50) x9 h9) rfl dX0_init_7 ?_
  refine lv_iconst (v := 2) hx hb dX0_init_10 (by decide) ?_
  refine lv_iconst (v := (-1)) hx hb dX0_init_11 (by decide) ?_
  refine gb_iast (x := (-1)) hx hb hK hP (fun k _ => Nat.le_add_right b k) hS hz 1 0 rfl rfl (gb_in rfl) dX0_init_12 (fun H locs hP hz hS => ?_)
  have hP : va_P D vwCl (gb_wl b [.inr (0, [.ref (b + 1)]), .inl (cT 0, 58, .inl (upd (fun _ => 0) 2 (-1)))]) H := hP
  exact W.vret hx hb hr (fun t ht hW => gb_rv ht ⟨hP, hz⟩ hS) hS.2.2 dX0_init_13
theorem dX5_init_0 : decode cX5_init 0 = .ok (.aload_n 0, 1) := by decide +kernel
theorem dX5_init_1 : decode cX5_init 1 = .ok (.bipush 24, 2) := by decide +kernel
theorem dX5_init_3 : decode cX5_init 3 = .ok (.iconst 3, 1) := by decide +kernel
theorem dX5_init_4 : decode cX5_init 4 = .ok (.getstatic 3, 3) := by decide +kernel
theorem dX5_init_7 : decode cX5_init 7 = .ok (.iconst 1, 1) := by decide +kernel
theorem dX5_init_8 : decode cX5_init 8 = .ok (.iaload, 1) := by decide +kernel
theorem dX5_init_9 : decode cX5_init 9 = .ok (.invokespecial 7, 3) := by decide +kernel
theorem dX4_init_0 : decode cX4_init 0 = .ok (.aload_n 0, 1) := by decide +kernel
theorem dX4_init_1 : decode cX4_init 1 = .ok (.iconst 1, 1) := by decide +kernel
theorem dX4_init_2 : decode cX4_init 2 = .ok (.iload_n 1, 1) := by decide +kernel
theorem dX4_init_3 : decode cX4_init 3 = .ok (.iload_n 2, 1) := by decide +kernel
theorem dX4_init_4 : decode cX4_init 4 = .ok (.iconst 1, 1) := by decide +kernel
theorem dX4_init_5 : decode cX4_init 5 = .ok (.iadd, 1) := by decide +kernel
theorem dX4_init_6 : decode cX4_init 6 = .ok (.imul, 1) := by decide +kernel
theorem dX4_init_7 : decode cX4_init 7 = .ok (.iadd, 1) := by decide +kernel
theorem dX4_init_8 : decode cX4_init 8 = .ok (.invokespecial 3, 3) := by decide +kernel
theorem w_78 : (Cond.laysFinal "GooseBorder$Night" "GooseBorder$Lines" "most" "I") ∈ gb_wA := gb_t1 78 rfl rfl
theorem w_80 : (Cond.laysFinal "GooseBorder$Night" "GooseBorder$Lines" "numbers" "I") ∈ gb_wA := gb_t1 80 rfl rfl
theorem w_82 : (Cond.laysFinal "GooseBorder$Night" "GooseBorder$Lines" "firstLine" "I") ∈ gb_wA := gb_t1 82 rfl rfl
theorem w_84 : (Cond.laysFinal "GooseBorder$Night" "GooseBorder$Sheet" "cells" "[I") ∈ gb_wA := gb_t1 84 rfl rfl
theorem i_X5 : ∀ w ∈ u_ws RX5 TX5 4, w ∈ gb_wA := (List.forall_mem_cons.mpr ⟨w_78, List.forall_mem_cons.mpr ⟨w_80, List.forall_mem_cons.mpr ⟨w_82, List.forall_mem_cons.mpr ⟨w_84, fun _ h => absurd h List.not_mem_nil⟩⟩⟩⟩ : ∀ w ∈ ([Cond.laysFinal "GooseBorder$Night" "GooseBorder$Lines" "most" "I", Cond.laysFinal "GooseBorder$Night" "GooseBorder$Lines" "numbers" "I", Cond.laysFinal "GooseBorder$Night" "GooseBorder$Lines" "firstLine" "I", Cond.laysFinal "GooseBorder$Night" "GooseBorder$Sheet" "cells" "[I"] : List Cond), w ∈ gb_wA)
set_option maxHeartbeats 4000000 in
set_option maxRecDepth 100000 in
theorem k_X9_init_2 (l : Launch) (D : va_G) (cT : Nat → ClassId) (tt : Nat → Nat) (b1 b : Nat) (hb1 : b1 ≤ b) : Met l yX9_init (.code yX9_init cX9_init 2 none :: gb_wA) ({ frames := 1, cells := 1, slots := 97, locals := 14 }) (gb_Pc D cT tt b1 [.ref (b + 0), .int 97] (fun h => va_P D vwCl (gb_wl b [.inr (4, [.int 0, .int 0, .int 0, .null])]) h ∧ Array.size h = b + 1)) (gb_Qv (fun h => va_P D vwCl (gb_wl b [.inr (4, [.int 0, .int 0, .int 0, .ref (b + 1)]), .inl (cT 0, 97, .inl (fun _ => 0))]) h ∧ Array.size h = b + 2) (gb_ge b)) 1 97 (gb_ge b) := by
  refine Met.ofW (cc := cX9_init) (maxL := 2) (ret := none) (by decide) rfl ?_
  intro p e s m args below meth c s₁ B hml hv
  obtain ⟨rfl, hSt, hP, hz⟩ := hv
  have hx := B.exec
  have hb := B.bytes
  have hr := B.returns
  have hts := atoms_spec (ws := .code yX9_init cX9_init 2 none :: gb_wA) B.pre
  have hq : ∀ w ∈ gb_wA, w.before _ s = true := fun w h => hts w (List.mem_cons_of_mem _ h)
  have hown : s.vm.findClass RX9 = some m.cls := findClass_of_methodNamed B.named
  have hlocks := B.notSynchronized
  have hin : meth.name = "<init>" := (name_of_methodNamed B.named B.method).1
  have hK := hSt.1
  have hS : va_S (gb_ge b) s.heap s.heap [] := va_S.rf
  have hl := lv_entry ([.ref (b + 0), .int 97]) (n := 2) (Nat.le_of_ble_eq_true rfl)
  rw [lg_entry_eq]
  generalize (lg_sl ([.ref (b + 0), .int 97]) ++ List.replicate (2 - (lg_sl ([.ref (b + 0), .int 97])).length) Slot.unset).toArray = ls at hl ⊢
  have hl : lv_has ls 2 [(0, .ref (b + 0)), (1, .int 97)] := hl
  refine lv_aload_n hx hb dX9_init_0 rfl (lv_at hl 0 rfl) ?_
  refine W.objInit hx hb hown (hq _ w_45) (hq _ w_28) (hq _ w_29) rfl (by rw [hml]; exact hl.1) rfl dX9_init_1 (Nat.le_of_ble_eq_true rfl) (Nat.le_of_ble_eq_true rfl) ?_
  refine W.eq (g2 := F0 m 4 ls []) rfl ?_
  refine lv_aload_n hx hb dX9_init_4 rfl (lv_at hl 0 rfl) ?_
  refine lv_iconst (v := 1) hx hb dX9_init_5 (by decide) ?_
  refine lv_iload_n hx hb dX9_init_6 rfl (lv_at hl 1 rfl) ?_
  refine va_mmax hx hb (hml.trans hl.1.symm) hown (hq _ w_46) (hq _ w_47) (hq _ w_5) (hq _ w_48) (Nat.le_of_ble_eq_true rfl) (Nat.le_of_ble_eq_true rfl) (Nat.le_of_ble_eq_true rfl) (Nat.le_of_ble_eq_true rfl) dX9_init_7 ?_
  refine W.eq (g2 := F0 m 10 ls [.int 97, .ref (b + 0)]) (congrArg (fun v => F0 m 10 ls (Value.int v :: [.ref (b + 0)])) (by decide)) ?_
  refine gb_newa (atype := .int) (a0 := (97, .inl (fun _ => 0))) hx hb (hq _ w_59) (ty := .int) rfl hK hP hS 1 hz rfl 0 rfl (fun h => h) (fun _ => rfl) (by decide) (by decide) (Nat.le_of_ble_eq_true rfl) (Nat.le_of_ble_eq_true rfl) (Nat.le_of_ble_eq_true rfl) dX9_init_10 (fun H hP hz hS => ?_)
  have hP : va_P D vwCl (gb_wl b [.inr (4, [.int 0, .int 0, .int 0, .null]), .inl (cT 0, 97, .inl (fun _ => 0))]) H := hP
  refine W.widen (k := 1) (n := 97) (Nat.le_of_ble_eq_true rfl) (Nat.le_of_ble_eq_true rfl) ?_
  refine gb_putF (ci := 4) (v := (.ref (b + 1))) (ty := .array .int) (C := RX5) (T := TX5) (N := 4) hx hb hq i_X5 tyX5 tyX5_ok nmX5 hown hK hP (fun k _ => Nat.le_add_right b k) hS hz 0 rfl rfl 3 (by decide) (hq _ w_51) (fun _ h9 => h9) rfl hin rfl (by decide +kernel) rfl rfl (Nat.le_of_ble_eq_true rfl) dX9_init_12 (fun H locs hP hz hS => ?_)
  have hP : va_P D vwCl (gb_wl b [.inr (4, [.int 0, .int 0, .int 0, .ref (b + 1)]), .inl (cT 0, 97, .inl (fun _ => 0))]) H := hP
  exact W.vret hx hb hr (fun t ht hW => gb_rv ht ⟨hP, hz⟩ hS) hS.2.2 dX9_init_15
theorem w_71 : (Cond.methodLink "GooseBorder$Lines" (3 : Nat) ({ cls := "GooseBorder$Sheet", name := "<init>", desc := "(I)V" } : MethodName)) ∈ gb_wA := gb_t1 71 rfl rfl
theorem dX4_init_11 : decode cX4_init 11 = .ok (.aload_n 0, 1) := by decide +kernel
theorem dX4_init_12 : decode cX4_init 12 = .ok (.iload_n 1, 1) := by decide +kernel
theorem dX4_init_13 : decode cX4_init 13 = .ok (.putfield 9, 3) := by decide +kernel
theorem w_72 : (Cond.fieldLink "GooseBorder$Lines" (9 : Nat) "GooseBorder$Lines" "most" "I") ∈ gb_wA := gb_t1 72 rfl rfl
theorem dX4_init_16 : decode cX4_init 16 = .ok (.aload_n 0, 1) := by decide +kernel
theorem dX4_init_17 : decode cX4_init 17 = .ok (.iload_n 2, 1) := by decide +kernel
theorem dX4_init_18 : decode cX4_init 18 = .ok (.putfield 15, 3) := by decide +kernel
theorem w_73 : (Cond.fieldLink "GooseBorder$Lines" (15 : Nat) "GooseBorder$Lines" "numbers" "I") ∈ gb_wA := gb_t1 73 rfl rfl
theorem dX4_init_21 : decode cX4_init 21 = .ok (.aload_n 0, 1) := by decide +kernel
theorem dX4_init_22 : decode cX4_init 22 = .ok (.iload_n 3, 1) := by decide +kernel
theorem dX4_init_23 : decode cX4_init 23 = .ok (.putfield 18, 3) := by decide +kernel
theorem w_77 : (Cond.fieldLink "GooseBorder$Lines" (18 : Nat) "GooseBorder$Lines" "firstLine" "I") ∈ gb_wA := gb_t1 77 rfl rfl
theorem dX4_init_26 : decode cX4_init 26 = .ok (.return_, 1) := by decide +kernel
set_option maxHeartbeats 4000000 in
set_option maxRecDepth 100000 in
theorem k_X4_init (l : Launch) (D : va_G) (cT : Nat → ClassId) (tt : Nat → Nat) (b1 b : Nat) (hb1 : b1 ≤ b) : Met l yX4_init (.code yX4_init cX4_init 4 none :: gb_wA) ({ frames := 2, cells := 1, slots := 97, locals := 35 }) (gb_Pc D cT tt b1 [.ref (b + 0), .int 24, .int 3, .int 3] (fun h => va_P D vwCl (gb_wl b [.inr (4, [.int 0, .int 0, .int 0, .null])]) h ∧ Array.size h = b + 1)) (gb_Qv (fun h => va_P D vwCl (gb_wl b [.inr (4, [.int 24, .int 3, .int 3, .ref (b + 1)]), .inl (cT 0, 97, .inl (fun _ => 0))]) h ∧ Array.size h = b + 2) (gb_ge b)) 1 97 (gb_ge b) := by
  refine Met.ofW (cc := cX4_init) (maxL := 4) (ret := none) (by decide) rfl ?_
  intro p e s m args below meth c s₁ B hml hv
  obtain ⟨rfl, hSt, hP, hz⟩ := hv
  have hx := B.exec
  have hb := B.bytes
  have hr := B.returns
  have hts := atoms_spec (ws := .code yX4_init cX4_init 4 none :: gb_wA) B.pre
  have hq : ∀ w ∈ gb_wA, w.before _ s = true := fun w h => hts w (List.mem_cons_of_mem _ h)
  have hown : s.vm.findClass RX4 = some m.cls := findClass_of_methodNamed B.named
  have hlocks := B.notSynchronized
  have hin : meth.name = "<init>" := (name_of_methodNamed B.named B.method).1
  have hK := hSt.1
  have hS : va_S (gb_ge b) s.heap s.heap [] := va_S.rf
  have hl := lv_entry ([.ref (b + 0), .int 24, .int 3, .int 3]) (n := 4) (Nat.le_of_ble_eq_true rfl)
  rw [lg_entry_eq]
  generalize (lg_sl ([.ref (b + 0), .int 24, .int 3, .int 3]) ++ List.replicate (4 - (lg_sl ([.ref (b + 0), .int 24, .int 3, .int 3])).length) Slot.unset).toArray = ls at hl ⊢
  have hl : lv_has ls 4 [(0, .ref (b + 0)), (1, .int 24), (2, .int 3), (3, .int 3)] := hl
  refine lv_aload_n hx hb dX4_init_0 rfl (lv_at hl 0 rfl) ?_
  refine lv_iconst (v := 1) hx hb dX4_init_1 (by decide) ?_
  refine lv_iload_n hx hb dX4_init_2 rfl (lv_at hl 1 rfl) ?_
  refine lv_iload_n hx hb dX4_init_3 rfl (lv_at hl 2 rfl) ?_
  refine lv_iconst (v := 1) hx hb dX4_init_4 (by decide) ?_
  refine lv_iadd hx hb dX4_init_5 ?_
  refine W.eq (g2 := F0 m 6 ls [.int 4, .int 24, .int 1, .ref (b + 0)]) (congrArg (fun v => F0 m 6 ls (Value.int v :: [.int 24, .int 1, .ref (b + 0)])) (show (3 : Int32) + 1 = 4 by decide)) ?_
  refine lv_imul hx hb dX4_init_6 ?_
  refine W.eq (g2 := F0 m 7 ls [.int 96, .int 1, .ref (b + 0)]) (congrArg (fun v => F0 m 7 ls (Value.int v :: [.int 1, .ref (b + 0)])) (show (24 : Int32) * 4 = 96 by decide)) ?_
  refine lv_iadd hx hb dX4_init_7 ?_
  refine W.eq (g2 := F0 m 8 ls [.int 97, .ref (b + 0)]) (congrArg (fun v => F0 m 8 ls (Value.int v :: [.ref (b + 0)])) (show (1 : Int32) + 96 = 97 by decide)) ?_
  have hPc := gb_drop hP 0 (suf := [.inr (4, [.int 0, .int 0, .int 0, .null])]) rfl rfl
  refine gb_callv (va_runI (As := [.int 97]) (rest := []) ⟨hx, hb, hml, hown, hq⟩ (k_X9_init_2 l D cT tt b1 (b + 0) (Nat.le_trans hb1 (Nat.le_add_right b 0))) (cwI 1 hq (gb_gI w_44) rfl rfl rfl (hq _ w_3) (hq _ w_71) (hq _ w_43) rfl (by decide +kernel) ⟨Nat.le_of_ble_eq_true rfl, Nat.le_of_ble_eq_true rfl⟩) (gb_preS hSt hS (fun q h => Nat.le_trans hb1 h) (show va_P D vwCl (gb_wl (b + 0) [.inr (4, [.int 0, .int 0, .int 0, .null])]) s.heap ∧ Array.size s.heap = b + 0 + 1 from ⟨hPc, hz⟩)) rfl rfl hl.1 rfl (lv_room (Nat.le_of_ble_eq_true rfl)) dX4_init_8 ⟨Nat.le_of_ble_eq_true rfl, Nat.le_of_ble_eq_true rfl⟩) hS (fun q h => Nat.le_trans (Nat.le_add_right b 0) h) (fun q h => Nat.le_trans (Nat.le_add_right b 0) h) (fun H locs hY hk hS => ?_)
  have hP := gb_glue hP 0 (pre := []) rfl rfl hk hY.1
  have hP : va_P D vwCl (gb_wl b [.inr (4, [.int 0, .int 0, .int 0, .ref (b + 1)]), .inl (cT 0, 97, .inl (fun _ => 0))]) H := hP
  have hz : Array.size H = b + 2 := hY.2
  refine W.widen (k := 1) (n := 97) (Nat.le_of_ble_eq_true rfl) (Nat.le_of_ble_eq_true rfl) ?_
  refine lv_aload_n hx hb dX4_init_11 rfl (lv_at hl 0 rfl) ?_
  refine lv_iload_n hx hb dX4_init_12 rfl (lv_at hl 1 rfl) ?_
  refine gb_putF (ci := 4) (v := (.int 24)) (ty := .int) (C := RX5) (T := TX5) (N := 4) hx hb hq i_X5 tyX5 tyX5_ok nmX5 hown hK hP (fun k _ => Nat.le_add_right b k) hS hz 0 rfl rfl 0 (by decide) (hq _ w_72) (fun _ h9 => h9) rfl hin rfl (by decide +kernel) rfl rfl (Nat.le_of_ble_eq_true rfl) dX4_init_13 (fun H locs hP hz hS => ?_)
  have hP : va_P D vwCl (gb_wl b [.inr (4, [.int 24, .int 0, .int 0, .ref (b + 1)]), .inl (cT 0, 97, .inl (fun _ => 0))]) H := hP
  refine lv_aload_n hx hb dX4_init_16 rfl (lv_at hl 0 rfl) ?_
  refine lv_iload_n hx hb dX4_init_17 rfl (lv_at hl 2 rfl) ?_
  refine gb_putF (ci := 4) (v := (.int 3)) (ty := .int) (C := RX5) (T := TX5) (N := 4) hx hb hq i_X5 tyX5 tyX5_ok nmX5 hown hK hP (fun k _ => Nat.le_add_right b k) hS hz 0 rfl rfl 1 (by decide) (hq _ w_73) (fun _ h9 => h9) rfl hin rfl (by decide +kernel) rfl rfl (Nat.le_of_ble_eq_true rfl) dX4_init_18 (fun H locs hP hz hS => ?_)
  have hP : va_P D vwCl (gb_wl b [.inr (4, [.int 24, .int 3, .int 0, .ref (b + 1)]), .inl (cT 0, 97, .inl (fun _ => 0))]) H := hP
  refine lv_aload_n hx hb dX4_init_21 rfl (lv_at hl 0 rfl) ?_
  refine lv_iload_n hx hb dX4_init_22 rfl (lv_at hl 3 rfl) ?_
  refine gb_putF (ci := 4) (v := (.int 3)) (ty := .int) (C := RX5) (T := TX5) (N := 4) hx hb hq i_X5 tyX5 tyX5_ok nmX5 hown hK hP (fun k _ => Nat.le_add_right b k) hS hz 0 rfl rfl 2 (by decide) (hq _ w_77) (fun _ h9 => h9) rfl hin rfl (by decide +kernel) rfl rfl (Nat.le_of_ble_eq_true rfl) dX4_init_23 (fun H locs hP hz hS => ?_)
  have hP : va_P D vwCl (gb_wl b [.inr (4, [.int 24, .int 3, .int 3, .ref (b + 1)]), .inl (cT 0, 97, .inl (fun _ => 0))]) H := hP
  exact W.vret hx hb hr (fun t ht hW => gb_rv ht ⟨hP, hz⟩ hS) hS.2.2 dX4_init_26
theorem w_70 : (Cond.code ({ cls := "GooseBorder$Lines", name := "<init>", desc := "(III)V" } : MethodName) prog_6_method_1_code (4 : Nat) (Option.none : Option FieldType)) ∈ gb_wA := gb_t1 70 rfl rfl
theorem w_6 : (Cond.initialized "GooseBorder$Lines") ∈ gb_wA := gb_t1 6 rfl rfl
theorem w_68 : (Cond.methodLink "GooseBorder$Night" (7 : Nat) ({ cls := "GooseBorder$Lines", name := "<init>", desc := "(III)V" } : MethodName)) ∈ gb_wA := gb_t1 68 rfl rfl
theorem w_69 : (Cond.instanceMethod ({ cls := "GooseBorder$Lines", name := "<init>", desc := "(III)V" } : MethodName)) ∈ gb_wA := gb_t1 69 rfl rfl
theorem dX5_init_12 : decode cX5_init 12 = .ok (.return_, 1) := by decide +kernel
set_option maxHeartbeats 4000000 in
set_option maxRecDepth 100000 in
theorem k_X5_init (l : Launch) (D : va_G) (cT : Nat → ClassId) (tt : Nat → Nat) (b1 b : Nat) (hb1 : b1 ≤ b) : Met l yX5_init (.code yX5_init cX5_init 1 none :: gb_wA) ({ frames := 3, cells := 1, slots := 97, locals := 58 }) (gb_Pc D cT tt b1 [.ref (b + 0)] (fun h => va_P D vwCl (gb_wl b [.inr (4, [.int 0, .int 0, .int 0, .null])]) h ∧ Array.size h = b + 1)) (gb_Qv (fun h => va_P D vwCl (gb_wl b [.inr (4, [.int 24, .int 3, .int 3, .ref (b + 1)]), .inl (cT 0, 97, .inl (fun _ => 0))]) h ∧ Array.size h = b + 2) (gb_ge b)) 1 97 (gb_ge b) := by
  refine Met.ofW (cc := cX5_init) (maxL := 1) (ret := none) (by decide) rfl ?_
  intro p e s m args below meth c s₁ B hml hv
  obtain ⟨rfl, hSt, hP, hz⟩ := hv
  have hx := B.exec
  have hb := B.bytes
  have hr := B.returns
  have hts := atoms_spec (ws := .code yX5_init cX5_init 1 none :: gb_wA) B.pre
  have hq : ∀ w ∈ gb_wA, w.before _ s = true := fun w h => hts w (List.mem_cons_of_mem _ h)
  have hown : s.vm.findClass RX5 = some m.cls := findClass_of_methodNamed B.named
  have hlocks := B.notSynchronized
  have hin : meth.name = "<init>" := (name_of_methodNamed B.named B.method).1
  have hK := hSt.1
  have hS : va_S (gb_ge b) s.heap s.heap [] := va_S.rf
  have hl := lv_entry ([.ref (b + 0)]) (n := 1) (Nat.le_of_ble_eq_true rfl)
  rw [lg_entry_eq]
  generalize (lg_sl ([.ref (b + 0)]) ++ List.replicate (1 - (lg_sl ([.ref (b + 0)])).length) Slot.unset).toArray = ls at hl ⊢
  have hl : lv_has ls 1 [(0, .ref (b + 0))] := hl
  refine lv_aload_n hx hb dX5_init_0 rfl (lv_at hl 0 rfl) ?_
  refine lv_bipush (v := 24) hx hb dX5_init_1 (by decide) ?_
  refine lv_iconst (v := 3) hx hb dX5_init_3 (by decide) ?_
  refine va_getsN hx hb (hSt.2.2.2.1.1.narrow (fun q h => Nat.le_trans hb1 h)) hS hown (va_Nw.use rfl (hSt.2.1 _ gb_n66)) (fun _ h9 => h9) dX5_init_4 ?_
  refine lv_iconst (v := 1) hx hb dX5_init_7 (by decide) ?_
  refine va_ti (v := (.int 3)) hx hb (hSt.2.2.2.1.2.narrow (fun q h => Nat.le_trans hb1 h)) hS (gb_in rfl) rfl dX5_init_8 ?_
  have hPc := gb_drop hP 0 (suf := [.inr (4, [.int 0, .int 0, .int 0, .null])]) rfl rfl
  refine gb_callv (va_runI (As := [.int 24, .int 3, .int 3]) (rest := []) ⟨hx, hb, hml, hown, hq⟩ (k_X4_init l D cT tt b1 (b + 0) (Nat.le_trans hb1 (Nat.le_add_right b 0))) (cwI 3 hq (gb_gI w_70) rfl rfl rfl (hq _ w_6) (hq _ w_68) (hq _ w_69) rfl (by decide +kernel) ⟨Nat.le_of_ble_eq_true rfl, Nat.le_of_ble_eq_true rfl⟩) (gb_preS hSt hS (fun q h => Nat.le_trans hb1 h) (show va_P D vwCl (gb_wl (b + 0) [.inr (4, [.int 0, .int 0, .int 0, .null])]) s.heap ∧ Array.size s.heap = b + 0 + 1 from ⟨hPc, hz⟩)) rfl rfl hl.1 rfl (lv_room (Nat.le_of_ble_eq_true rfl)) dX5_init_9 ⟨Nat.le_of_ble_eq_true rfl, Nat.le_of_ble_eq_true rfl⟩) hS (fun q h => Nat.le_trans (Nat.le_add_right b 0) h) (fun q h => Nat.le_trans (Nat.le_add_right b 0) h) (fun H locs hY hk hS => ?_)
  have hP := gb_glue hP 0 (pre := []) rfl rfl hk hY.1
  have hP : va_P D vwCl (gb_wl b [.inr (4, [.int 24, .int 3, .int 3, .ref (b + 1)]), .inl (cT 0, 97, .inl (fun _ => 0))]) H := hP
  have hz : Array.size H = b + 2 := hY.2
  refine W.widen (k := 1) (n := 97) (Nat.le_of_ble_eq_true rfl) (Nat.le_of_ble_eq_true rfl) ?_
  exact W.vret hx hb hr (fun t ht hW => gb_rv ht ⟨hP, hz⟩ hS) hS.2.2 dX5_init_12
theorem dX3_init_0 : decode cX3_init 0 = .ok (.aload_n 0, 1) := by decide +kernel
theorem dX3_init_1 : decode cX3_init 1 = .ok (.bipush 8, 2) := by decide +kernel
theorem dX3_init_3 : decode cX3_init 3 = .ok (.iconst 2, 1) := by decide +kernel
theorem dX3_init_4 : decode cX3_init 4 = .ok (.getstatic 3, 3) := by decide +kernel
theorem dX3_init_7 : decode cX3_init 7 = .ok (.iconst 2, 1) := by decide +kernel
theorem dX3_init_8 : decode cX3_init 8 = .ok (.iaload, 1) := by decide +kernel
theorem dX3_init_9 : decode cX3_init 9 = .ok (.invokespecial 7, 3) := by decide +kernel
theorem w_94 : (Cond.laysFinal "GooseBorder$Law" "GooseBorder$Lines" "most" "I") ∈ gb_wA := gb_t1 94 rfl rfl
theorem w_95 : (Cond.laysFinal "GooseBorder$Law" "GooseBorder$Lines" "numbers" "I") ∈ gb_wA := gb_t1 95 rfl rfl
theorem w_96 : (Cond.laysFinal "GooseBorder$Law" "GooseBorder$Lines" "firstLine" "I") ∈ gb_wA := gb_t1 96 rfl rfl
theorem w_97 : (Cond.laysFinal "GooseBorder$Law" "GooseBorder$Sheet" "cells" "[I") ∈ gb_wA := gb_t1 97 rfl rfl
theorem i_X3 : ∀ w ∈ u_ws RX3 TX3 4, w ∈ gb_wA := (List.forall_mem_cons.mpr ⟨w_94, List.forall_mem_cons.mpr ⟨w_95, List.forall_mem_cons.mpr ⟨w_96, List.forall_mem_cons.mpr ⟨w_97, fun _ h => absurd h List.not_mem_nil⟩⟩⟩⟩ : ∀ w ∈ ([Cond.laysFinal "GooseBorder$Law" "GooseBorder$Lines" "most" "I", Cond.laysFinal "GooseBorder$Law" "GooseBorder$Lines" "numbers" "I", Cond.laysFinal "GooseBorder$Law" "GooseBorder$Lines" "firstLine" "I", Cond.laysFinal "GooseBorder$Law" "GooseBorder$Sheet" "cells" "[I"] : List Cond), w ∈ gb_wA)
set_option maxHeartbeats 4000000 in
set_option maxRecDepth 100000 in
theorem k_X9_init_3 (l : Launch) (D : va_G) (cT : Nat → ClassId) (tt : Nat → Nat) (b1 b : Nat) (hb1 : b1 ≤ b) : Met l yX9_init (.code yX9_init cX9_init 2 none :: gb_wA) ({ frames := 1, cells := 1, slots := 25, locals := 14 }) (gb_Pc D cT tt b1 [.ref (b + 0), .int 25] (fun h => va_P D vwCl (gb_wl b [.inr (3, [.int 0, .int 0, .int 0, .null])]) h ∧ Array.size h = b + 1)) (gb_Qv (fun h => va_P D vwCl (gb_wl b [.inr (3, [.int 0, .int 0, .int 0, .ref (b + 1)]), .inl (cT 0, 25, .inl (fun _ => 0))]) h ∧ Array.size h = b + 2) (gb_ge b)) 1 25 (gb_ge b) := by
  refine Met.ofW (cc := cX9_init) (maxL := 2) (ret := none) (by decide) rfl ?_
  intro p e s m args below meth c s₁ B hml hv
  obtain ⟨rfl, hSt, hP, hz⟩ := hv
  have hx := B.exec
  have hb := B.bytes
  have hr := B.returns
  have hts := atoms_spec (ws := .code yX9_init cX9_init 2 none :: gb_wA) B.pre
  have hq : ∀ w ∈ gb_wA, w.before _ s = true := fun w h => hts w (List.mem_cons_of_mem _ h)
  have hown : s.vm.findClass RX9 = some m.cls := findClass_of_methodNamed B.named
  have hlocks := B.notSynchronized
  have hin : meth.name = "<init>" := (name_of_methodNamed B.named B.method).1
  have hK := hSt.1
  have hS : va_S (gb_ge b) s.heap s.heap [] := va_S.rf
  have hl := lv_entry ([.ref (b + 0), .int 25]) (n := 2) (Nat.le_of_ble_eq_true rfl)
  rw [lg_entry_eq]
  generalize (lg_sl ([.ref (b + 0), .int 25]) ++ List.replicate (2 - (lg_sl ([.ref (b + 0), .int 25])).length) Slot.unset).toArray = ls at hl ⊢
  have hl : lv_has ls 2 [(0, .ref (b + 0)), (1, .int 25)] := hl
  refine lv_aload_n hx hb dX9_init_0 rfl (lv_at hl 0 rfl) ?_
  refine W.objInit hx hb hown (hq _ w_45) (hq _ w_28) (hq _ w_29) rfl (by rw [hml]; exact hl.1) rfl dX9_init_1 (Nat.le_of_ble_eq_true rfl) (Nat.le_of_ble_eq_true rfl) ?_
  refine W.eq (g2 := F0 m 4 ls []) rfl ?_
  refine lv_aload_n hx hb dX9_init_4 rfl (lv_at hl 0 rfl) ?_
  refine lv_iconst (v := 1) hx hb dX9_init_5 (by decide) ?_
  refine lv_iload_n hx hb dX9_init_6 rfl (lv_at hl 1 rfl) ?_
  refine va_mmax hx hb (hml.trans hl.1.symm) hown (hq _ w_46) (hq _ w_47) (hq _ w_5) (hq _ w_48) (Nat.le_of_ble_eq_true rfl) (Nat.le_of_ble_eq_true rfl) (Nat.le_of_ble_eq_true rfl) (Nat.le_of_ble_eq_true rfl) dX9_init_7 ?_
  refine W.eq (g2 := F0 m 10 ls [.int 25, .ref (b + 0)]) (congrArg (fun v => F0 m 10 ls (Value.int v :: [.ref (b + 0)])) (by decide)) ?_
  refine gb_newa (atype := .int) (a0 := (25, .inl (fun _ => 0))) hx hb (hq _ w_59) (ty := .int) rfl hK hP hS 1 hz rfl 0 rfl (fun h => h) (fun _ => rfl) (by decide) (by decide) (Nat.le_of_ble_eq_true rfl) (Nat.le_of_ble_eq_true rfl) (Nat.le_of_ble_eq_true rfl) dX9_init_10 (fun H hP hz hS => ?_)
  have hP : va_P D vwCl (gb_wl b [.inr (3, [.int 0, .int 0, .int 0, .null]), .inl (cT 0, 25, .inl (fun _ => 0))]) H := hP
  refine W.widen (k := 1) (n := 25) (Nat.le_of_ble_eq_true rfl) (Nat.le_of_ble_eq_true rfl) ?_
  refine gb_putF (ci := 3) (v := (.ref (b + 1))) (ty := .array .int) (C := RX3) (T := TX3) (N := 4) hx hb hq i_X3 tyX3 tyX3_ok nmX3 hown hK hP (fun k _ => Nat.le_add_right b k) hS hz 0 rfl rfl 3 (by decide) (hq _ w_51) (fun _ h9 => h9) rfl hin rfl (by decide +kernel) rfl rfl (Nat.le_of_ble_eq_true rfl) dX9_init_12 (fun H locs hP hz hS => ?_)
  have hP : va_P D vwCl (gb_wl b [.inr (3, [.int 0, .int 0, .int 0, .ref (b + 1)]), .inl (cT 0, 25, .inl (fun _ => 0))]) H := hP
  exact W.vret hx hb hr (fun t ht hW => gb_rv ht ⟨hP, hz⟩ hS) hS.2.2 dX9_init_15
set_option maxHeartbeats 4000000 in
set_option maxRecDepth 100000 in
theorem k_X4_init_2 (l : Launch) (D : va_G) (cT : Nat → ClassId) (tt : Nat → Nat) (b1 b : Nat) (hb1 : b1 ≤ b) : Met l yX4_init (.code yX4_init cX4_init 4 none :: gb_wA) ({ frames := 2, cells := 1, slots := 25, locals := 35 }) (gb_Pc D cT tt b1 [.ref (b + 0), .int 8, .int 2, .int 12] (fun h => va_P D vwCl (gb_wl b [.inr (3, [.int 0, .int 0, .int 0, .null])]) h ∧ Array.size h = b + 1)) (gb_Qv (fun h => va_P D vwCl (gb_wl b [.inr (3, [.int 8, .int 2, .int 12, .ref (b + 1)]), .inl (cT 0, 25, .inl (fun _ => 0))]) h ∧ Array.size h = b + 2) (gb_ge b)) 1 25 (gb_ge b) := by
  refine Met.ofW (cc := cX4_init) (maxL := 4) (ret := none) (by decide) rfl ?_
  intro p e s m args below meth c s₁ B hml hv
  obtain ⟨rfl, hSt, hP, hz⟩ := hv
  have hx := B.exec
  have hb := B.bytes
  have hr := B.returns
  have hts := atoms_spec (ws := .code yX4_init cX4_init 4 none :: gb_wA) B.pre
  have hq : ∀ w ∈ gb_wA, w.before _ s = true := fun w h => hts w (List.mem_cons_of_mem _ h)
  have hown : s.vm.findClass RX4 = some m.cls := findClass_of_methodNamed B.named
  have hlocks := B.notSynchronized
  have hin : meth.name = "<init>" := (name_of_methodNamed B.named B.method).1
  have hK := hSt.1
  have hS : va_S (gb_ge b) s.heap s.heap [] := va_S.rf
  have hl := lv_entry ([.ref (b + 0), .int 8, .int 2, .int 12]) (n := 4) (Nat.le_of_ble_eq_true rfl)
  rw [lg_entry_eq]
  generalize (lg_sl ([.ref (b + 0), .int 8, .int 2, .int 12]) ++ List.replicate (4 - (lg_sl ([.ref (b + 0), .int 8, .int 2, .int 12])).length) Slot.unset).toArray = ls at hl ⊢
  have hl : lv_has ls 4 [(0, .ref (b + 0)), (1, .int 8), (2, .int 2), (3, .int 12)] := hl
  refine lv_aload_n hx hb dX4_init_0 rfl (lv_at hl 0 rfl) ?_
  refine lv_iconst (v := 1) hx hb dX4_init_1 (by decide) ?_
  refine lv_iload_n hx hb dX4_init_2 rfl (lv_at hl 1 rfl) ?_
  refine lv_iload_n hx hb dX4_init_3 rfl (lv_at hl 2 rfl) ?_
  refine lv_iconst (v := 1) hx hb dX4_init_4 (by decide) ?_
  refine lv_iadd hx hb dX4_init_5 ?_
  refine W.eq (g2 := F0 m 6 ls [.int 3, .int 8, .int 1, .ref (b + 0)]) (congrArg (fun v => F0 m 6 ls (Value.int v :: [.int 8, .int 1, .ref (b + 0)])) (show (2 : Int32) + 1 = 3 by decide)) ?_
  refine lv_imul hx hb dX4_init_6 ?_
  refine W.eq (g2 := F0 m 7 ls [.int 24, .int 1, .ref (b + 0)]) (congrArg (fun v => F0 m 7 ls (Value.int v :: [.int 1, .ref (b + 0)])) (show (8 : Int32) * 3 = 24 by decide)) ?_
  refine lv_iadd hx hb dX4_init_7 ?_
  refine W.eq (g2 := F0 m 8 ls [.int 25, .ref (b + 0)]) (congrArg (fun v => F0 m 8 ls (Value.int v :: [.ref (b + 0)])) (show (1 : Int32) + 24 = 25 by decide)) ?_
  have hPc := gb_drop hP 0 (suf := [.inr (3, [.int 0, .int 0, .int 0, .null])]) rfl rfl
  refine gb_callv (va_runI (As := [.int 25]) (rest := []) ⟨hx, hb, hml, hown, hq⟩ (k_X9_init_3 l D cT tt b1 (b + 0) (Nat.le_trans hb1 (Nat.le_add_right b 0))) (cwI 1 hq (gb_gI w_44) rfl rfl rfl (hq _ w_3) (hq _ w_71) (hq _ w_43) rfl (by decide +kernel) ⟨Nat.le_of_ble_eq_true rfl, Nat.le_of_ble_eq_true rfl⟩) (gb_preS hSt hS (fun q h => Nat.le_trans hb1 h) (show va_P D vwCl (gb_wl (b + 0) [.inr (3, [.int 0, .int 0, .int 0, .null])]) s.heap ∧ Array.size s.heap = b + 0 + 1 from ⟨hPc, hz⟩)) rfl rfl hl.1 rfl (lv_room (Nat.le_of_ble_eq_true rfl)) dX4_init_8 ⟨Nat.le_of_ble_eq_true rfl, Nat.le_of_ble_eq_true rfl⟩) hS (fun q h => Nat.le_trans (Nat.le_add_right b 0) h) (fun q h => Nat.le_trans (Nat.le_add_right b 0) h) (fun H locs hY hk hS => ?_)
  have hP := gb_glue hP 0 (pre := []) rfl rfl hk hY.1
  have hP : va_P D vwCl (gb_wl b [.inr (3, [.int 0, .int 0, .int 0, .ref (b + 1)]), .inl (cT 0, 25, .inl (fun _ => 0))]) H := hP
  have hz : Array.size H = b + 2 := hY.2
  refine W.widen (k := 1) (n := 25) (Nat.le_of_ble_eq_true rfl) (Nat.le_of_ble_eq_true rfl) ?_
  refine lv_aload_n hx hb dX4_init_11 rfl (lv_at hl 0 rfl) ?_
  refine lv_iload_n hx hb dX4_init_12 rfl (lv_at hl 1 rfl) ?_
  refine gb_putF (ci := 3) (v := (.int 8)) (ty := .int) (C := RX3) (T := TX3) (N := 4) hx hb hq i_X3 tyX3 tyX3_ok nmX3 hown hK hP (fun k _ => Nat.le_add_right b k) hS hz 0 rfl rfl 0 (by decide) (hq _ w_72) (fun _ h9 => h9) rfl hin rfl (by decide +kernel) rfl rfl (Nat.le_of_ble_eq_true rfl) dX4_init_13 (fun H locs hP hz hS => ?_)
  have hP : va_P D vwCl (gb_wl b [.inr (3, [.int 8, .int 0, .int 0, .ref (b + 1)]), .inl (cT 0, 25, .inl (fun _ => 0))]) H := hP
  refine lv_aload_n hx hb dX4_init_16 rfl (lv_at hl 0 rfl) ?_
  refine lv_iload_n hx hb dX4_init_17 rfl (lv_at hl 2 rfl) ?_
  refine gb_putF (ci := 3) (v := (.int 2)) (ty := .int) (C := RX3) (T := TX3) (N := 4) hx hb hq i_X3 tyX3 tyX3_ok nmX3 hown hK hP (fun k _ => Nat.le_add_right b k) hS hz 0 rfl rfl 1 (by decide) (hq _ w_73) (fun _ h9 => h9) rfl hin rfl (by decide +kernel) rfl rfl (Nat.le_of_ble_eq_true rfl) dX4_init_18 (fun H locs hP hz hS => ?_)
  have hP : va_P D vwCl (gb_wl b [.inr (3, [.int 8, .int 2, .int 0, .ref (b + 1)]), .inl (cT 0, 25, .inl (fun _ => 0))]) H := hP
  refine lv_aload_n hx hb dX4_init_21 rfl (lv_at hl 0 rfl) ?_
  refine lv_iload_n hx hb dX4_init_22 rfl (lv_at hl 3 rfl) ?_
  refine gb_putF (ci := 3) (v := (.int 12)) (ty := .int) (C := RX3) (T := TX3) (N := 4) hx hb hq i_X3 tyX3 tyX3_ok nmX3 hown hK hP (fun k _ => Nat.le_add_right b k) hS hz 0 rfl rfl 2 (by decide) (hq _ w_77) (fun _ h9 => h9) rfl hin rfl (by decide +kernel) rfl rfl (Nat.le_of_ble_eq_true rfl) dX4_init_23 (fun H locs hP hz hS => ?_)
  have hP : va_P D vwCl (gb_wl b [.inr (3, [.int 8, .int 2, .int 12, .ref (b + 1)]), .inl (cT 0, 25, .inl (fun _ => 0))]) H := hP
  exact W.vret hx hb hr (fun t ht hW => gb_rv ht ⟨hP, hz⟩ hS) hS.2.2 dX4_init_26
theorem w_93 : (Cond.methodLink "GooseBorder$Law" (7 : Nat) ({ cls := "GooseBorder$Lines", name := "<init>", desc := "(III)V" } : MethodName)) ∈ gb_wA := gb_t1 93 rfl rfl
theorem dX3_init_12 : decode cX3_init 12 = .ok (.return_, 1) := by decide +kernel
set_option maxHeartbeats 4000000 in
set_option maxRecDepth 100000 in
theorem k_X3_init (l : Launch) (D : va_G) (cT : Nat → ClassId) (tt : Nat → Nat) (b1 b : Nat) (hb1 : b1 ≤ b) : Met l yX3_init (.code yX3_init cX3_init 1 none :: gb_wA) ({ frames := 3, cells := 1, slots := 25, locals := 58 }) (gb_Pc D cT tt b1 [.ref (b + 0)] (fun h => va_P D vwCl (gb_wl b [.inr (3, [.int 0, .int 0, .int 0, .null])]) h ∧ Array.size h = b + 1)) (gb_Qv (fun h => va_P D vwCl (gb_wl b [.inr (3, [.int 8, .int 2, .int 12, .ref (b + 1)]), .inl (cT 0, 25, .inl (fun _ => 0))]) h ∧ Array.size h = b + 2) (gb_ge b)) 1 25 (gb_ge b) := by
  refine Met.ofW (cc := cX3_init) (maxL := 1) (ret := none) (by decide) rfl ?_
  intro p e s m args below meth c s₁ B hml hv
  obtain ⟨rfl, hSt, hP, hz⟩ := hv
  have hx := B.exec
  have hb := B.bytes
  have hr := B.returns
  have hts := atoms_spec (ws := .code yX3_init cX3_init 1 none :: gb_wA) B.pre
  have hq : ∀ w ∈ gb_wA, w.before _ s = true := fun w h => hts w (List.mem_cons_of_mem _ h)
  have hown : s.vm.findClass RX3 = some m.cls := findClass_of_methodNamed B.named
  have hlocks := B.notSynchronized
  have hin : meth.name = "<init>" := (name_of_methodNamed B.named B.method).1
  have hK := hSt.1
  have hS : va_S (gb_ge b) s.heap s.heap [] := va_S.rf
  have hl := lv_entry ([.ref (b + 0)]) (n := 1) (Nat.le_of_ble_eq_true rfl)
  rw [lg_entry_eq]
  generalize (lg_sl ([.ref (b + 0)]) ++ List.replicate (1 - (lg_sl ([.ref (b + 0)])).length) Slot.unset).toArray = ls at hl ⊢
  have hl : lv_has ls 1 [(0, .ref (b + 0))] := hl
  refine lv_aload_n hx hb dX3_init_0 rfl (lv_at hl 0 rfl) ?_
  refine lv_bipush (v := 8) hx hb dX3_init_1 (by decide) ?_
  refine lv_iconst (v := 2) hx hb dX3_init_3 (by decide) ?_
  refine va_getsN hx hb (hSt.2.2.2.1.1.narrow (fun q h => Nat.le_trans hb1 h)) hS hown (va_Nw.use rfl (hSt.2.1 _ gb_n92)) (fun _ h9 => h9) dX3_init_4 ?_
  refine lv_iconst (v := 2) hx hb dX3_init_7 (by decide) ?_
  refine va_ti (v := (.int 12)) hx hb (hSt.2.2.2.1.2.narrow (fun q h => Nat.le_trans hb1 h)) hS (gb_in rfl) rfl dX3_init_8 ?_
  have hPc := gb_drop hP 0 (suf := [.inr (3, [.int 0, .int 0, .int 0, .null])]) rfl rfl
  refine gb_callv (va_runI (As := [.int 8, .int 2, .int 12]) (rest := []) ⟨hx, hb, hml, hown, hq⟩ (k_X4_init_2 l D cT tt b1 (b + 0) (Nat.le_trans hb1 (Nat.le_add_right b 0))) (cwI 3 hq (gb_gI w_70) rfl rfl rfl (hq _ w_6) (hq _ w_93) (hq _ w_69) rfl (by decide +kernel) ⟨Nat.le_of_ble_eq_true rfl, Nat.le_of_ble_eq_true rfl⟩) (gb_preS hSt hS (fun q h => Nat.le_trans hb1 h) (show va_P D vwCl (gb_wl (b + 0) [.inr (3, [.int 0, .int 0, .int 0, .null])]) s.heap ∧ Array.size s.heap = b + 0 + 1 from ⟨hPc, hz⟩)) rfl rfl hl.1 rfl (lv_room (Nat.le_of_ble_eq_true rfl)) dX3_init_9 ⟨Nat.le_of_ble_eq_true rfl, Nat.le_of_ble_eq_true rfl⟩) hS (fun q h => Nat.le_trans (Nat.le_add_right b 0) h) (fun q h => Nat.le_trans (Nat.le_add_right b 0) h) (fun H locs hY hk hS => ?_)
  have hP := gb_glue hP 0 (pre := []) rfl rfl hk hY.1
  have hP : va_P D vwCl (gb_wl b [.inr (3, [.int 8, .int 2, .int 12, .ref (b + 1)]), .inl (cT 0, 25, .inl (fun _ => 0))]) H := hP
  have hz : Array.size H = b + 2 := hY.2
  refine W.widen (k := 1) (n := 25) (Nat.le_of_ble_eq_true rfl) (Nat.le_of_ble_eq_true rfl) ?_
  exact W.vret hx hb hr (fun t ht hW => gb_rv ht ⟨hP, hz⟩ hS) hS.2.2 dX3_init_12
theorem dX1_init_0 : decode cX1_init 0 = .ok (.aload_n 0, 1) := by decide +kernel
theorem dX1_init_1 : decode cX1_init 1 = .ok (.iconst 5, 1) := by decide +kernel
theorem dX1_init_2 : decode cX1_init 2 = .ok (.iconst 2, 1) := by decide +kernel
theorem dX1_init_3 : decode cX1_init 3 = .ok (.getstatic 3, 3) := by decide +kernel
theorem dX1_init_6 : decode cX1_init 6 = .ok (.iconst 3, 1) := by decide +kernel
theorem dX1_init_7 : decode cX1_init 7 = .ok (.iaload, 1) := by decide +kernel
theorem dX1_init_8 : decode cX1_init 8 = .ok (.invokespecial 7, 3) := by decide +kernel
theorem w_107 : (Cond.laysFinal "GooseBorder$Dawn" "GooseBorder$Lines" "most" "I") ∈ gb_wA := gb_t1 107 rfl rfl
theorem w_108 : (Cond.laysFinal "GooseBorder$Dawn" "GooseBorder$Lines" "numbers" "I") ∈ gb_wA := gb_t1 108 rfl rfl
theorem w_109 : (Cond.laysFinal "GooseBorder$Dawn" "GooseBorder$Lines" "firstLine" "I") ∈ gb_wA := gb_t1 109 rfl rfl
theorem w_110 : (Cond.laysFinal "GooseBorder$Dawn" "GooseBorder$Sheet" "cells" "[I") ∈ gb_wA := gb_t1 110 rfl rfl
theorem i_X1 : ∀ w ∈ u_ws RX1 TX1 4, w ∈ gb_wA := (List.forall_mem_cons.mpr ⟨w_107, List.forall_mem_cons.mpr ⟨w_108, List.forall_mem_cons.mpr ⟨w_109, List.forall_mem_cons.mpr ⟨w_110, fun _ h => absurd h List.not_mem_nil⟩⟩⟩⟩ : ∀ w ∈ ([Cond.laysFinal "GooseBorder$Dawn" "GooseBorder$Lines" "most" "I", Cond.laysFinal "GooseBorder$Dawn" "GooseBorder$Lines" "numbers" "I", Cond.laysFinal "GooseBorder$Dawn" "GooseBorder$Lines" "firstLine" "I", Cond.laysFinal "GooseBorder$Dawn" "GooseBorder$Sheet" "cells" "[I"] : List Cond), w ∈ gb_wA)
set_option maxHeartbeats 4000000 in
set_option maxRecDepth 100000 in
theorem k_X9_init_4 (l : Launch) (D : va_G) (cT : Nat → ClassId) (tt : Nat → Nat) (b1 b : Nat) (hb1 : b1 ≤ b) : Met l yX9_init (.code yX9_init cX9_init 2 none :: gb_wA) ({ frames := 1, cells := 1, slots := 16, locals := 14 }) (gb_Pc D cT tt b1 [.ref (b + 0), .int 16] (fun h => va_P D vwCl (gb_wl b [.inr (1, [.int 0, .int 0, .int 0, .null])]) h ∧ Array.size h = b + 1)) (gb_Qv (fun h => va_P D vwCl (gb_wl b [.inr (1, [.int 0, .int 0, .int 0, .ref (b + 1)]), .inl (cT 0, 16, .inl (fun _ => 0))]) h ∧ Array.size h = b + 2) (gb_ge b)) 1 16 (gb_ge b) := by
  refine Met.ofW (cc := cX9_init) (maxL := 2) (ret := none) (by decide) rfl ?_
  intro p e s m args below meth c s₁ B hml hv
  obtain ⟨rfl, hSt, hP, hz⟩ := hv
  have hx := B.exec
  have hb := B.bytes
  have hr := B.returns
  have hts := atoms_spec (ws := .code yX9_init cX9_init 2 none :: gb_wA) B.pre
  have hq : ∀ w ∈ gb_wA, w.before _ s = true := fun w h => hts w (List.mem_cons_of_mem _ h)
  have hown : s.vm.findClass RX9 = some m.cls := findClass_of_methodNamed B.named
  have hlocks := B.notSynchronized
  have hin : meth.name = "<init>" := (name_of_methodNamed B.named B.method).1
  have hK := hSt.1
  have hS : va_S (gb_ge b) s.heap s.heap [] := va_S.rf
  have hl := lv_entry ([.ref (b + 0), .int 16]) (n := 2) (Nat.le_of_ble_eq_true rfl)
  rw [lg_entry_eq]
  generalize (lg_sl ([.ref (b + 0), .int 16]) ++ List.replicate (2 - (lg_sl ([.ref (b + 0), .int 16])).length) Slot.unset).toArray = ls at hl ⊢
  have hl : lv_has ls 2 [(0, .ref (b + 0)), (1, .int 16)] := hl
  refine lv_aload_n hx hb dX9_init_0 rfl (lv_at hl 0 rfl) ?_
  refine W.objInit hx hb hown (hq _ w_45) (hq _ w_28) (hq _ w_29) rfl (by rw [hml]; exact hl.1) rfl dX9_init_1 (Nat.le_of_ble_eq_true rfl) (Nat.le_of_ble_eq_true rfl) ?_
  refine W.eq (g2 := F0 m 4 ls []) rfl ?_
  refine lv_aload_n hx hb dX9_init_4 rfl (lv_at hl 0 rfl) ?_
  refine lv_iconst (v := 1) hx hb dX9_init_5 (by decide) ?_
  refine lv_iload_n hx hb dX9_init_6 rfl (lv_at hl 1 rfl) ?_
  refine va_mmax hx hb (hml.trans hl.1.symm) hown (hq _ w_46) (hq _ w_47) (hq _ w_5) (hq _ w_48) (Nat.le_of_ble_eq_true rfl) (Nat.le_of_ble_eq_true rfl) (Nat.le_of_ble_eq_true rfl) (Nat.le_of_ble_eq_true rfl) dX9_init_7 ?_
  refine W.eq (g2 := F0 m 10 ls [.int 16, .ref (b + 0)]) (congrArg (fun v => F0 m 10 ls (Value.int v :: [.ref (b + 0)])) (by decide)) ?_
  refine gb_newa (atype := .int) (a0 := (16, .inl (fun _ => 0))) hx hb (hq _ w_59) (ty := .int) rfl hK hP hS 1 hz rfl 0 rfl (fun h => h) (fun _ => rfl) (by decide) (by decide) (Nat.le_of_ble_eq_true rfl) (Nat.le_of_ble_eq_true rfl) (Nat.le_of_ble_eq_true rfl) dX9_init_10 (fun H hP hz hS => ?_)
  have hP : va_P D vwCl (gb_wl b [.inr (1, [.int 0, .int 0, .int 0, .null]), .inl (cT 0, 16, .inl (fun _ => 0))]) H := hP
  refine W.widen (k := 1) (n := 16) (Nat.le_of_ble_eq_true rfl) (Nat.le_of_ble_eq_true rfl) ?_
  refine gb_putF (ci := 1) (v := (.ref (b + 1))) (ty := .array .int) (C := RX1) (T := TX1) (N := 4) hx hb hq i_X1 tyX1 tyX1_ok nmX1 hown hK hP (fun k _ => Nat.le_add_right b k) hS hz 0 rfl rfl 3 (by decide) (hq _ w_51) (fun _ h9 => h9) rfl hin rfl (by decide +kernel) rfl rfl (Nat.le_of_ble_eq_true rfl) dX9_init_12 (fun H locs hP hz hS => ?_)
  have hP : va_P D vwCl (gb_wl b [.inr (1, [.int 0, .int 0, .int 0, .ref (b + 1)]), .inl (cT 0, 16, .inl (fun _ => 0))]) H := hP
  exact W.vret hx hb hr (fun t ht hW => gb_rv ht ⟨hP, hz⟩ hS) hS.2.2 dX9_init_15
set_option maxHeartbeats 4000000 in
set_option maxRecDepth 100000 in
theorem k_X4_init_3 (l : Launch) (D : va_G) (cT : Nat → ClassId) (tt : Nat → Nat) (b1 b : Nat) (hb1 : b1 ≤ b) : Met l yX4_init (.code yX4_init cX4_init 4 none :: gb_wA) ({ frames := 2, cells := 1, slots := 16, locals := 35 }) (gb_Pc D cT tt b1 [.ref (b + 0), .int 5, .int 2, .int 17] (fun h => va_P D vwCl (gb_wl b [.inr (1, [.int 0, .int 0, .int 0, .null])]) h ∧ Array.size h = b + 1)) (gb_Qv (fun h => va_P D vwCl (gb_wl b [.inr (1, [.int 5, .int 2, .int 17, .ref (b + 1)]), .inl (cT 0, 16, .inl (fun _ => 0))]) h ∧ Array.size h = b + 2) (gb_ge b)) 1 16 (gb_ge b) := by
  refine Met.ofW (cc := cX4_init) (maxL := 4) (ret := none) (by decide) rfl ?_
  intro p e s m args below meth c s₁ B hml hv
  obtain ⟨rfl, hSt, hP, hz⟩ := hv
  have hx := B.exec
  have hb := B.bytes
  have hr := B.returns
  have hts := atoms_spec (ws := .code yX4_init cX4_init 4 none :: gb_wA) B.pre
  have hq : ∀ w ∈ gb_wA, w.before _ s = true := fun w h => hts w (List.mem_cons_of_mem _ h)
  have hown : s.vm.findClass RX4 = some m.cls := findClass_of_methodNamed B.named
  have hlocks := B.notSynchronized
  have hin : meth.name = "<init>" := (name_of_methodNamed B.named B.method).1
  have hK := hSt.1
  have hS : va_S (gb_ge b) s.heap s.heap [] := va_S.rf
  have hl := lv_entry ([.ref (b + 0), .int 5, .int 2, .int 17]) (n := 4) (Nat.le_of_ble_eq_true rfl)
  rw [lg_entry_eq]
  generalize (lg_sl ([.ref (b + 0), .int 5, .int 2, .int 17]) ++ List.replicate (4 - (lg_sl ([.ref (b + 0), .int 5, .int 2, .int 17])).length) Slot.unset).toArray = ls at hl ⊢
  have hl : lv_has ls 4 [(0, .ref (b + 0)), (1, .int 5), (2, .int 2), (3, .int 17)] := hl
  refine lv_aload_n hx hb dX4_init_0 rfl (lv_at hl 0 rfl) ?_
  refine lv_iconst (v := 1) hx hb dX4_init_1 (by decide) ?_
  refine lv_iload_n hx hb dX4_init_2 rfl (lv_at hl 1 rfl) ?_
  refine lv_iload_n hx hb dX4_init_3 rfl (lv_at hl 2 rfl) ?_
  refine lv_iconst (v := 1) hx hb dX4_init_4 (by decide) ?_
  refine lv_iadd hx hb dX4_init_5 ?_
  refine W.eq (g2 := F0 m 6 ls [.int 3, .int 5, .int 1, .ref (b + 0)]) (congrArg (fun v => F0 m 6 ls (Value.int v :: [.int 5, .int 1, .ref (b + 0)])) (show (2 : Int32) + 1 = 3 by decide)) ?_
  refine lv_imul hx hb dX4_init_6 ?_
  refine W.eq (g2 := F0 m 7 ls [.int 15, .int 1, .ref (b + 0)]) (congrArg (fun v => F0 m 7 ls (Value.int v :: [.int 1, .ref (b + 0)])) (show (5 : Int32) * 3 = 15 by decide)) ?_
  refine lv_iadd hx hb dX4_init_7 ?_
  refine W.eq (g2 := F0 m 8 ls [.int 16, .ref (b + 0)]) (congrArg (fun v => F0 m 8 ls (Value.int v :: [.ref (b + 0)])) (show (1 : Int32) + 15 = 16 by decide)) ?_
  have hPc := gb_drop hP 0 (suf := [.inr (1, [.int 0, .int 0, .int 0, .null])]) rfl rfl
  refine gb_callv (va_runI (As := [.int 16]) (rest := []) ⟨hx, hb, hml, hown, hq⟩ (k_X9_init_4 l D cT tt b1 (b + 0) (Nat.le_trans hb1 (Nat.le_add_right b 0))) (cwI 1 hq (gb_gI w_44) rfl rfl rfl (hq _ w_3) (hq _ w_71) (hq _ w_43) rfl (by decide +kernel) ⟨Nat.le_of_ble_eq_true rfl, Nat.le_of_ble_eq_true rfl⟩) (gb_preS hSt hS (fun q h => Nat.le_trans hb1 h) (show va_P D vwCl (gb_wl (b + 0) [.inr (1, [.int 0, .int 0, .int 0, .null])]) s.heap ∧ Array.size s.heap = b + 0 + 1 from ⟨hPc, hz⟩)) rfl rfl hl.1 rfl (lv_room (Nat.le_of_ble_eq_true rfl)) dX4_init_8 ⟨Nat.le_of_ble_eq_true rfl, Nat.le_of_ble_eq_true rfl⟩) hS (fun q h => Nat.le_trans (Nat.le_add_right b 0) h) (fun q h => Nat.le_trans (Nat.le_add_right b 0) h) (fun H locs hY hk hS => ?_)
  have hP := gb_glue hP 0 (pre := []) rfl rfl hk hY.1
  have hP : va_P D vwCl (gb_wl b [.inr (1, [.int 0, .int 0, .int 0, .ref (b + 1)]), .inl (cT 0, 16, .inl (fun _ => 0))]) H := hP
  have hz : Array.size H = b + 2 := hY.2
  refine W.widen (k := 1) (n := 16) (Nat.le_of_ble_eq_true rfl) (Nat.le_of_ble_eq_true rfl) ?_
  refine lv_aload_n hx hb dX4_init_11 rfl (lv_at hl 0 rfl) ?_
  refine lv_iload_n hx hb dX4_init_12 rfl (lv_at hl 1 rfl) ?_
  refine gb_putF (ci := 1) (v := (.int 5)) (ty := .int) (C := RX1) (T := TX1) (N := 4) hx hb hq i_X1 tyX1 tyX1_ok nmX1 hown hK hP (fun k _ => Nat.le_add_right b k) hS hz 0 rfl rfl 0 (by decide) (hq _ w_72) (fun _ h9 => h9) rfl hin rfl (by decide +kernel) rfl rfl (Nat.le_of_ble_eq_true rfl) dX4_init_13 (fun H locs hP hz hS => ?_)
  have hP : va_P D vwCl (gb_wl b [.inr (1, [.int 5, .int 0, .int 0, .ref (b + 1)]), .inl (cT 0, 16, .inl (fun _ => 0))]) H := hP
  refine lv_aload_n hx hb dX4_init_16 rfl (lv_at hl 0 rfl) ?_
  refine lv_iload_n hx hb dX4_init_17 rfl (lv_at hl 2 rfl) ?_
  refine gb_putF (ci := 1) (v := (.int 2)) (ty := .int) (C := RX1) (T := TX1) (N := 4) hx hb hq i_X1 tyX1 tyX1_ok nmX1 hown hK hP (fun k _ => Nat.le_add_right b k) hS hz 0 rfl rfl 1 (by decide) (hq _ w_73) (fun _ h9 => h9) rfl hin rfl (by decide +kernel) rfl rfl (Nat.le_of_ble_eq_true rfl) dX4_init_18 (fun H locs hP hz hS => ?_)
  have hP : va_P D vwCl (gb_wl b [.inr (1, [.int 5, .int 2, .int 0, .ref (b + 1)]), .inl (cT 0, 16, .inl (fun _ => 0))]) H := hP
  refine lv_aload_n hx hb dX4_init_21 rfl (lv_at hl 0 rfl) ?_
  refine lv_iload_n hx hb dX4_init_22 rfl (lv_at hl 3 rfl) ?_
  refine gb_putF (ci := 1) (v := (.int 17)) (ty := .int) (C := RX1) (T := TX1) (N := 4) hx hb hq i_X1 tyX1 tyX1_ok nmX1 hown hK hP (fun k _ => Nat.le_add_right b k) hS hz 0 rfl rfl 2 (by decide) (hq _ w_77) (fun _ h9 => h9) rfl hin rfl (by decide +kernel) rfl rfl (Nat.le_of_ble_eq_true rfl) dX4_init_23 (fun H locs hP hz hS => ?_)
  have hP : va_P D vwCl (gb_wl b [.inr (1, [.int 5, .int 2, .int 17, .ref (b + 1)]), .inl (cT 0, 16, .inl (fun _ => 0))]) H := hP
  exact W.vret hx hb hr (fun t ht hW => gb_rv ht ⟨hP, hz⟩ hS) hS.2.2 dX4_init_26
theorem w_106 : (Cond.methodLink "GooseBorder$Dawn" (7 : Nat) ({ cls := "GooseBorder$Lines", name := "<init>", desc := "(III)V" } : MethodName)) ∈ gb_wA := gb_t1 106 rfl rfl
theorem dX1_init_11 : decode cX1_init 11 = .ok (.return_, 1) := by decide +kernel
set_option maxHeartbeats 4000000 in
set_option maxRecDepth 100000 in
theorem k_X1_init (l : Launch) (D : va_G) (cT : Nat → ClassId) (tt : Nat → Nat) (b1 b : Nat) (hb1 : b1 ≤ b) : Met l yX1_init (.code yX1_init cX1_init 1 none :: gb_wA) ({ frames := 3, cells := 1, slots := 16, locals := 58 }) (gb_Pc D cT tt b1 [.ref (b + 0)] (fun h => va_P D vwCl (gb_wl b [.inr (1, [.int 0, .int 0, .int 0, .null])]) h ∧ Array.size h = b + 1)) (gb_Qv (fun h => va_P D vwCl (gb_wl b [.inr (1, [.int 5, .int 2, .int 17, .ref (b + 1)]), .inl (cT 0, 16, .inl (fun _ => 0))]) h ∧ Array.size h = b + 2) (gb_ge b)) 1 16 (gb_ge b) := by
  refine Met.ofW (cc := cX1_init) (maxL := 1) (ret := none) (by decide) rfl ?_
  intro p e s m args below meth c s₁ B hml hv
  obtain ⟨rfl, hSt, hP, hz⟩ := hv
  have hx := B.exec
  have hb := B.bytes
  have hr := B.returns
  have hts := atoms_spec (ws := .code yX1_init cX1_init 1 none :: gb_wA) B.pre
  have hq : ∀ w ∈ gb_wA, w.before _ s = true := fun w h => hts w (List.mem_cons_of_mem _ h)
  have hown : s.vm.findClass RX1 = some m.cls := findClass_of_methodNamed B.named
  have hlocks := B.notSynchronized
  have hin : meth.name = "<init>" := (name_of_methodNamed B.named B.method).1
  have hK := hSt.1
  have hS : va_S (gb_ge b) s.heap s.heap [] := va_S.rf
  have hl := lv_entry ([.ref (b + 0)]) (n := 1) (Nat.le_of_ble_eq_true rfl)
  rw [lg_entry_eq]
  generalize (lg_sl ([.ref (b + 0)]) ++ List.replicate (1 - (lg_sl ([.ref (b + 0)])).length) Slot.unset).toArray = ls at hl ⊢
  have hl : lv_has ls 1 [(0, .ref (b + 0))] := hl
  refine lv_aload_n hx hb dX1_init_0 rfl (lv_at hl 0 rfl) ?_
  refine lv_iconst (v := 5) hx hb dX1_init_1 (by decide) ?_
  refine lv_iconst (v := 2) hx hb dX1_init_2 (by decide) ?_
  refine va_getsN hx hb (hSt.2.2.2.1.1.narrow (fun q h => Nat.le_trans hb1 h)) hS hown (va_Nw.use rfl (hSt.2.1 _ gb_n105)) (fun _ h9 => h9) dX1_init_3 ?_
  refine lv_iconst (v := 3) hx hb dX1_init_6 (by decide) ?_
  refine va_ti (v := (.int 17)) hx hb (hSt.2.2.2.1.2.narrow (fun q h => Nat.le_trans hb1 h)) hS (gb_in rfl) rfl dX1_init_7 ?_
  have hPc := gb_drop hP 0 (suf := [.inr (1, [.int 0, .int 0, .int 0, .null])]) rfl rfl
  refine gb_callv (va_runI (As := [.int 5, .int 2, .int 17]) (rest := []) ⟨hx, hb, hml, hown, hq⟩ (k_X4_init_3 l D cT tt b1 (b + 0) (Nat.le_trans hb1 (Nat.le_add_right b 0))) (cwI 3 hq (gb_gI w_70) rfl rfl rfl (hq _ w_6) (hq _ w_106) (hq _ w_69) rfl (by decide +kernel) ⟨Nat.le_of_ble_eq_true rfl, Nat.le_of_ble_eq_true rfl⟩) (gb_preS hSt hS (fun q h => Nat.le_trans hb1 h) (show va_P D vwCl (gb_wl (b + 0) [.inr (1, [.int 0, .int 0, .int 0, .null])]) s.heap ∧ Array.size s.heap = b + 0 + 1 from ⟨hPc, hz⟩)) rfl rfl hl.1 rfl (lv_room (Nat.le_of_ble_eq_true rfl)) dX1_init_8 ⟨Nat.le_of_ble_eq_true rfl, Nat.le_of_ble_eq_true rfl⟩) hS (fun q h => Nat.le_trans (Nat.le_add_right b 0) h) (fun q h => Nat.le_trans (Nat.le_add_right b 0) h) (fun H locs hY hk hS => ?_)
  have hP := gb_glue hP 0 (pre := []) rfl rfl hk hY.1
  have hP : va_P D vwCl (gb_wl b [.inr (1, [.int 5, .int 2, .int 17, .ref (b + 1)]), .inl (cT 0, 16, .inl (fun _ => 0))]) H := hP
  have hz : Array.size H = b + 2 := hY.2
  refine W.widen (k := 1) (n := 16) (Nat.le_of_ble_eq_true rfl) (Nat.le_of_ble_eq_true rfl) ?_
  exact W.vret hx hb hr (fun t ht hW => gb_rv ht ⟨hP, hz⟩ hS) hS.2.2 dX1_init_11
end
section
theorem dX10_init_0 : decode cX10_init 0 = .ok (.aload_n 0, 1) := by decide +kernel
theorem dX10_init_1 : decode cX10_init 1 = .ok (.invokespecial 3, 3) := by decide +kernel
theorem w_35 : (Cond.methodLink "GooseBorder$Told" (3 : Nat) ({ cls := "java/lang/Object", name := "<init>", desc := "()V" } : MethodName)) ∈ gb_wA := gb_t1 35 rfl rfl
theorem dX10_init_4 : decode cX10_init 4 = .ok (.aload_n 0, 1) := by decide +kernel
theorem dX10_init_5 : decode cX10_init 5 = .ok (.iconst 2, 1) := by decide +kernel
theorem dX10_init_6 : decode cX10_init 6 = .ok (.anewarray 9, 3) := by decide +kernel
theorem w_36 : (Cond.classLink "GooseBorder$Told" (9 : Nat) "GooseBorder$Border") ∈ gb_wA := gb_t1 36 rfl rfl
theorem dX10_init_9 : decode cX10_init 9 = .ok (.dup, 1) := by decide +kernel
theorem dX10_init_10 : decode cX10_init 10 = .ok (.iconst 0, 1) := by decide +kernel
theorem dX10_init_11 : decode cX10_init 11 = .ok (.new 9, 3) := by decide +kernel
theorem w_38 : (Cond.instantiable "GooseBorder$Border" (1 : Nat)) ∈ gb_wA := gb_t1 38 rfl rfl
theorem w_4 : (Cond.initialized "GooseBorder$Border") ∈ gb_wA := gb_t1 4 rfl rfl
theorem dX10_init_14 : decode cX10_init 14 = .ok (.dup, 1) := by decide +kernel
theorem dX10_init_15 : decode cX10_init 15 = .ok (.invokespecial 11, 3) := by decide +kernel
theorem w_41 : (Cond.code ({ cls := "GooseBorder$Border", name := "<init>", desc := "()V" } : MethodName) prog_2_method_1_code (1 : Nat) (Option.none : Option FieldType)) ∈ gb_wA := gb_t1 41 rfl rfl
theorem w_39 : (Cond.methodLink "GooseBorder$Told" (11 : Nat) ({ cls := "GooseBorder$Border", name := "<init>", desc := "()V" } : MethodName)) ∈ gb_wA := gb_t1 39 rfl rfl
theorem w_40 : (Cond.instanceMethod ({ cls := "GooseBorder$Border", name := "<init>", desc := "()V" } : MethodName)) ∈ gb_wA := gb_t1 40 rfl rfl
theorem dX10_init_18 : decode cX10_init 18 = .ok (.aastore, 1) := by decide +kernel
theorem dX10_init_19 : decode cX10_init 19 = .ok (.dup, 1) := by decide +kernel
theorem dX10_init_20 : decode cX10_init 20 = .ok (.iconst 1, 1) := by decide +kernel
theorem dX10_init_21 : decode cX10_init 21 = .ok (.new 9, 3) := by decide +kernel
theorem dX10_init_24 : decode cX10_init 24 = .ok (.dup, 1) := by decide +kernel
theorem dX10_init_25 : decode cX10_init 25 = .ok (.invokespecial 11, 3) := by decide +kernel
theorem dX10_init_28 : decode cX10_init 28 = .ok (.aastore, 1) := by decide +kernel
theorem dX10_init_29 : decode cX10_init 29 = .ok (.putfield 12, 3) := by decide +kernel
theorem w_130 : (Cond.laysFinal "GooseBorder$Told" "GooseBorder$Told" "borders" "[LGooseBorder$Border;") ∈ gb_wA := gb_t1 130 rfl rfl
theorem w_132 : (Cond.laysFinal "GooseBorder$Told" "GooseBorder$Told" "nights" "[LGooseBorder$Night;") ∈ gb_wA := gb_t1 132 rfl rfl
theorem w_134 : (Cond.laysFinal "GooseBorder$Told" "GooseBorder$Told" "laws" "[LGooseBorder$Law;") ∈ gb_wA := gb_t1 134 rfl rfl
theorem w_136 : (Cond.laysFinal "GooseBorder$Told" "GooseBorder$Told" "dawns" "[LGooseBorder$Dawn;") ∈ gb_wA := gb_t1 136 rfl rfl
theorem w_138 : (Cond.laysFinal "GooseBorder$Told" "GooseBorder$Told" "held" "[I") ∈ gb_wA := gb_t1 138 rfl rfl
theorem w_140 : (Cond.laysFinal "GooseBorder$Told" "GooseBorder$Told" "tape" "[B") ∈ gb_wA := gb_t1 140 rfl rfl
theorem w_142 : (Cond.lays "GooseBorder$Told" "GooseBorder$Told" "length" "I") ∈ gb_wA := gb_t1 142 rfl rfl
theorem w_144 : (Cond.lays "GooseBorder$Told" "GooseBorder$Told" "fault" "I") ∈ gb_wA := gb_t1 144 rfl rfl
theorem w_146 : (Cond.lays "GooseBorder$Told" "GooseBorder$Told" "place" "I") ∈ gb_wA := gb_t1 146 rfl rfl
theorem i_X10 : ∀ w ∈ u_ws RX10 TX10 9, w ∈ gb_wA := (List.forall_mem_cons.mpr ⟨w_130, List.forall_mem_cons.mpr ⟨w_132, List.forall_mem_cons.mpr ⟨w_134, List.forall_mem_cons.mpr ⟨w_136, List.forall_mem_cons.mpr ⟨w_138, List.forall_mem_cons.mpr ⟨w_140, List.forall_mem_cons.mpr ⟨w_142, List.forall_mem_cons.mpr ⟨w_144, List.forall_mem_cons.mpr ⟨w_146, fun _ h => absurd h List.not_mem_nil⟩⟩⟩⟩⟩⟩⟩⟩⟩ : ∀ w ∈ ([Cond.laysFinal "GooseBorder$Told" "GooseBorder$Told" "borders" "[LGooseBorder$Border;", Cond.laysFinal "GooseBorder$Told" "GooseBorder$Told" "nights" "[LGooseBorder$Night;", Cond.laysFinal "GooseBorder$Told" "GooseBorder$Told" "laws" "[LGooseBorder$Law;", Cond.laysFinal "GooseBorder$Told" "GooseBorder$Told" "dawns" "[LGooseBorder$Dawn;", Cond.laysFinal "GooseBorder$Told" "GooseBorder$Told" "held" "[I", Cond.laysFinal "GooseBorder$Told" "GooseBorder$Told" "tape" "[B", Cond.lays "GooseBorder$Told" "GooseBorder$Told" "length" "I", Cond.lays "GooseBorder$Told" "GooseBorder$Told" "fault" "I", Cond.lays "GooseBorder$Told" "GooseBorder$Told" "place" "I"] : List Cond), w ∈ gb_wA)
theorem w_112 : (Cond.fieldLink "GooseBorder$Told" (12 : Nat) "GooseBorder$Told" "borders" "[LGooseBorder$Border;") ∈ gb_wA := gb_t1 112 rfl rfl
theorem dX10_init_32 : decode cX10_init 32 = .ok (.aload_n 0, 1) := by decide +kernel
theorem dX10_init_33 : decode cX10_init 33 = .ok (.iconst 2, 1) := by decide +kernel
theorem dX10_init_34 : decode cX10_init 34 = .ok (.anewarray 18, 3) := by decide +kernel
theorem w_60 : (Cond.classLink "GooseBorder$Told" (18 : Nat) "GooseBorder$Night") ∈ gb_wA := gb_t1 60 rfl rfl
theorem dX10_init_37 : decode cX10_init 37 = .ok (.dup, 1) := by decide +kernel
theorem dX10_init_38 : decode cX10_init 38 = .ok (.iconst 0, 1) := by decide +kernel
theorem dX10_init_39 : decode cX10_init 39 = .ok (.new 18, 3) := by decide +kernel
theorem w_62 : (Cond.instantiable "GooseBorder$Night" (4 : Nat)) ∈ gb_wA := gb_t1 62 rfl rfl
theorem w_7 : (Cond.initialized "GooseBorder$Night") ∈ gb_wA := gb_t1 7 rfl rfl
theorem dX10_init_42 : decode cX10_init 42 = .ok (.dup, 1) := by decide +kernel
theorem dX10_init_43 : decode cX10_init 43 = .ok (.invokespecial 20, 3) := by decide +kernel
theorem w_65 : (Cond.code ({ cls := "GooseBorder$Night", name := "<init>", desc := "()V" } : MethodName) prog_7_method_1_code (1 : Nat) (Option.none : Option FieldType)) ∈ gb_wA := gb_t1 65 rfl rfl
theorem w_63 : (Cond.methodLink "GooseBorder$Told" (20 : Nat) ({ cls := "GooseBorder$Night", name := "<init>", desc := "()V" } : MethodName)) ∈ gb_wA := gb_t1 63 rfl rfl
theorem w_64 : (Cond.instanceMethod ({ cls := "GooseBorder$Night", name := "<init>", desc := "()V" } : MethodName)) ∈ gb_wA := gb_t1 64 rfl rfl
theorem dX10_init_46 : decode cX10_init 46 = .ok (.aastore, 1) := by decide +kernel
theorem dX10_init_47 : decode cX10_init 47 = .ok (.dup, 1) := by decide +kernel
theorem dX10_init_48 : decode cX10_init 48 = .ok (.iconst 1, 1) := by decide +kernel
theorem dX10_init_49 : decode cX10_init 49 = .ok (.new 18, 3) := by decide +kernel
theorem dX10_init_52 : decode cX10_init 52 = .ok (.dup, 1) := by decide +kernel
theorem dX10_init_53 : decode cX10_init 53 = .ok (.invokespecial 20, 3) := by decide +kernel
theorem dX10_init_56 : decode cX10_init 56 = .ok (.aastore, 1) := by decide +kernel
theorem dX10_init_57 : decode cX10_init 57 = .ok (.putfield 21, 3) := by decide +kernel
theorem w_114 : (Cond.fieldLink "GooseBorder$Told" (21 : Nat) "GooseBorder$Told" "nights" "[LGooseBorder$Night;") ∈ gb_wA := gb_t1 114 rfl rfl
theorem dX10_init_60 : decode cX10_init 60 = .ok (.aload_n 0, 1) := by decide +kernel
theorem dX10_init_61 : decode cX10_init 61 = .ok (.iconst 2, 1) := by decide +kernel
theorem dX10_init_62 : decode cX10_init 62 = .ok (.anewarray 25, 3) := by decide +kernel
theorem w_86 : (Cond.classLink "GooseBorder$Told" (25 : Nat) "GooseBorder$Law") ∈ gb_wA := gb_t1 86 rfl rfl
theorem dX10_init_65 : decode cX10_init 65 = .ok (.dup, 1) := by decide +kernel
theorem dX10_init_66 : decode cX10_init 66 = .ok (.iconst 0, 1) := by decide +kernel
theorem dX10_init_67 : decode cX10_init 67 = .ok (.new 25, 3) := by decide +kernel
theorem w_88 : (Cond.instantiable "GooseBorder$Law" (4 : Nat)) ∈ gb_wA := gb_t1 88 rfl rfl
theorem w_8 : (Cond.initialized "GooseBorder$Law") ∈ gb_wA := gb_t1 8 rfl rfl
theorem dX10_init_70 : decode cX10_init 70 = .ok (.dup, 1) := by decide +kernel
theorem dX10_init_71 : decode cX10_init 71 = .ok (.invokespecial 27, 3) := by decide +kernel
theorem w_91 : (Cond.code ({ cls := "GooseBorder$Law", name := "<init>", desc := "()V" } : MethodName) prog_5_method_1_code (1 : Nat) (Option.none : Option FieldType)) ∈ gb_wA := gb_t1 91 rfl rfl
theorem w_89 : (Cond.methodLink "GooseBorder$Told" (27 : Nat) ({ cls := "GooseBorder$Law", name := "<init>", desc := "()V" } : MethodName)) ∈ gb_wA := gb_t1 89 rfl rfl
theorem w_90 : (Cond.instanceMethod ({ cls := "GooseBorder$Law", name := "<init>", desc := "()V" } : MethodName)) ∈ gb_wA := gb_t1 90 rfl rfl
theorem dX10_init_74 : decode cX10_init 74 = .ok (.aastore, 1) := by decide +kernel
theorem dX10_init_75 : decode cX10_init 75 = .ok (.dup, 1) := by decide +kernel
theorem dX10_init_76 : decode cX10_init 76 = .ok (.iconst 1, 1) := by decide +kernel
theorem dX10_init_77 : decode cX10_init 77 = .ok (.new 25, 3) := by decide +kernel
theorem dX10_init_80 : decode cX10_init 80 = .ok (.dup, 1) := by decide +kernel
theorem dX10_init_81 : decode cX10_init 81 = .ok (.invokespecial 27, 3) := by decide +kernel
theorem dX10_init_84 : decode cX10_init 84 = .ok (.aastore, 1) := by decide +kernel
theorem dX10_init_85 : decode cX10_init 85 = .ok (.putfield 28, 3) := by decide +kernel
theorem w_116 : (Cond.fieldLink "GooseBorder$Told" (28 : Nat) "GooseBorder$Told" "laws" "[LGooseBorder$Law;") ∈ gb_wA := gb_t1 116 rfl rfl
theorem dX10_init_88 : decode cX10_init 88 = .ok (.aload_n 0, 1) := by decide +kernel
theorem dX10_init_89 : decode cX10_init 89 = .ok (.iconst 2, 1) := by decide +kernel
theorem dX10_init_90 : decode cX10_init 90 = .ok (.anewarray 32, 3) := by decide +kernel
theorem w_99 : (Cond.classLink "GooseBorder$Told" (32 : Nat) "GooseBorder$Dawn") ∈ gb_wA := gb_t1 99 rfl rfl
theorem dX10_init_93 : decode cX10_init 93 = .ok (.dup, 1) := by decide +kernel
theorem dX10_init_94 : decode cX10_init 94 = .ok (.iconst 0, 1) := by decide +kernel
theorem dX10_init_95 : decode cX10_init 95 = .ok (.new 32, 3) := by decide +kernel
theorem w_101 : (Cond.instantiable "GooseBorder$Dawn" (4 : Nat)) ∈ gb_wA := gb_t1 101 rfl rfl
theorem w_9 : (Cond.initialized "GooseBorder$Dawn") ∈ gb_wA := gb_t1 9 rfl rfl
theorem dX10_init_98 : decode cX10_init 98 = .ok (.dup, 1) := by decide +kernel
theorem dX10_init_99 : decode cX10_init 99 = .ok (.invokespecial 34, 3) := by decide +kernel
theorem w_104 : (Cond.code ({ cls := "GooseBorder$Dawn", name := "<init>", desc := "()V" } : MethodName) prog_3_method_1_code (1 : Nat) (Option.none : Option FieldType)) ∈ gb_wA := gb_t1 104 rfl rfl
theorem w_102 : (Cond.methodLink "GooseBorder$Told" (34 : Nat) ({ cls := "GooseBorder$Dawn", name := "<init>", desc := "()V" } : MethodName)) ∈ gb_wA := gb_t1 102 rfl rfl
theorem w_103 : (Cond.instanceMethod ({ cls := "GooseBorder$Dawn", name := "<init>", desc := "()V" } : MethodName)) ∈ gb_wA := gb_t1 103 rfl rfl
theorem dX10_init_102 : decode cX10_init 102 = .ok (.aastore, 1) := by decide +kernel
theorem dX10_init_103 : decode cX10_init 103 = .ok (.dup, 1) := by decide +kernel
theorem dX10_init_104 : decode cX10_init 104 = .ok (.iconst 1, 1) := by decide +kernel
theorem dX10_init_105 : decode cX10_init 105 = .ok (.new 32, 3) := by decide +kernel
theorem dX10_init_108 : decode cX10_init 108 = .ok (.dup, 1) := by decide +kernel
theorem dX10_init_109 : decode cX10_init 109 = .ok (.invokespecial 34, 3) := by decide +kernel
theorem dX10_init_112 : decode cX10_init 112 = .ok (.aastore, 1) := by decide +kernel
theorem dX10_init_113 : decode cX10_init 113 = .ok (.putfield 35, 3) := by decide +kernel
theorem w_118 : (Cond.fieldLink "GooseBorder$Told" (35 : Nat) "GooseBorder$Told" "dawns" "[LGooseBorder$Dawn;") ∈ gb_wA := gb_t1 118 rfl rfl
theorem dX10_init_116 : decode cX10_init 116 = .ok (.aload_n 0, 1) := by decide +kernel
theorem dX10_init_117 : decode cX10_init 117 = .ok (.iconst 4, 1) := by decide +kernel
theorem dX10_init_118 : decode cX10_init 118 = .ok (.newarray .int, 2) := by decide +kernel
theorem dX10_init_120 : decode cX10_init 120 = .ok (.putfield 39, 3) := by decide +kernel
theorem w_120 : (Cond.fieldLink "GooseBorder$Told" (39 : Nat) "GooseBorder$Told" "held" "[I") ∈ gb_wA := gb_t1 120 rfl rfl
theorem dX10_init_123 : decode cX10_init 123 = .ok (.aload_n 0, 1) := by decide +kernel
theorem dX10_init_124 : decode cX10_init 124 = .ok (.sipush 600, 3) := by decide +kernel
theorem dX10_init_127 : decode cX10_init 127 = .ok (.newarray .byte, 2) := by decide +kernel
theorem w_149 : (Cond.arrayClass FieldType.byte) ∈ gb_wA := gb_t1 149 rfl rfl
theorem dX10_init_129 : decode cX10_init 129 = .ok (.putfield 43, 3) := by decide +kernel
theorem w_122 : (Cond.fieldLink "GooseBorder$Told" (43 : Nat) "GooseBorder$Told" "tape" "[B") ∈ gb_wA := gb_t1 122 rfl rfl
theorem dX10_init_132 : decode cX10_init 132 = .ok (.aload_n 0, 1) := by decide +kernel
theorem dX10_init_133 : decode cX10_init 133 = .ok (.iconst (-1), 1) := by decide +kernel
theorem dX10_init_134 : decode cX10_init 134 = .ok (.putfield 47, 3) := by decide +kernel
theorem w_128 : (Cond.fieldLink "GooseBorder$Told" (47 : Nat) "GooseBorder$Told" "place" "I") ∈ gb_wA := gb_t1 128 rfl rfl
theorem dX10_init_137 : decode cX10_init 137 = .ok (.return_, 1) := by decide +kernel
set_option maxHeartbeats 4000000 in
set_option maxRecDepth 100000 in
theorem k_X10_init (l : Launch) (D : va_G) (cT : Nat → ClassId) (tt : Nat → Nat) (b1 b : Nat) (hb1 : b1 ≤ b) : Met l yX10_init (.code yX10_init cX10_init 1 none :: gb_wA) ({ frames := 4, cells := 22, slots := 1030, locals := 78 }) (gb_Pc D cT tt b1 [.ref (b + 0)] (fun h => va_P D vwCl (gb_wl b [.inr (8, [.null, .null, .null, .null, .null, .null, .int 0, .int 0, .int 0])]) h ∧ Array.size h = b + 1)) (gb_Qv (fun h => va_P D vwCl (gb_wl b [.inr (8, [.ref (b + 1), .ref (b + 6), .ref (b + 11), .ref (b + 16), .ref (b + 21), .ref (b + 22), .int 0, .int 0, .int (-1)]), .inl (cT 4, 2, .inr (.inr (.inr (.inr (va_up (va_up (fun _ => none) 0 (some (b + 2))) 1 (some (b + 4))))))), .inr (0, [.ref (b + 3)]), .inl (cT 0, 58, .inl (upd (fun _ => 0) 2 (-1))), .inr (0, [.ref (b + 5)]), .inl (cT 0, 58, .inl (upd (fun _ => 0) 2 (-1))), .inl (cT 5, 2, .inr (.inr (.inr (.inr (va_up (va_up (fun _ => none) 0 (some (b + 7))) 1 (some (b + 9))))))), .inr (4, [.int 24, .int 3, .int 3, .ref (b + 8)]), .inl (cT 0, 97, .inl (fun _ => 0)), .inr (4, [.int 24, .int 3, .int 3, .ref (b + 10)]), .inl (cT 0, 97, .inl (fun _ => 0)), .inl (cT 6, 2, .inr (.inr (.inr (.inr (va_up (va_up (fun _ => none) 0 (some (b + 12))) 1 (some (b + 14))))))), .inr (3, [.int 8, .int 2, .int 12, .ref (b + 13)]), .inl (cT 0, 25, .inl (fun _ => 0)), .inr (3, [.int 8, .int 2, .int 12, .ref (b + 15)]), .inl (cT 0, 25, .inl (fun _ => 0)), .inl (cT 7, 2, .inr (.inr (.inr (.inr (va_up (va_up (fun _ => none) 0 (some (b + 17))) 1 (some (b + 19))))))), .inr (1, [.int 5, .int 2, .int 17, .ref (b + 18)]), .inl (cT 0, 16, .inl (fun _ => 0)), .inr (1, [.int 5, .int 2, .int 17, .ref (b + 20)]), .inl (cT 0, 16, .inl (fun _ => 0)), .inl (cT 0, 4, .inl (fun _ => 0)), .inl (cT 1, 600, .inl (fun _ => 0))]) h ∧ Array.size h = b + 23) (gb_ge b)) 22 1030 (gb_ge b) := by
  refine Met.ofW (cc := cX10_init) (maxL := 1) (ret := none) (by decide) rfl ?_
  intro p e s m args below meth c s₁ B hml hv
  obtain ⟨rfl, hSt, hP, hz⟩ := hv
  have hx := B.exec
  have hb := B.bytes
  have hr := B.returns
  have hts := atoms_spec (ws := .code yX10_init cX10_init 1 none :: gb_wA) B.pre
  have hq : ∀ w ∈ gb_wA, w.before _ s = true := fun w h => hts w (List.mem_cons_of_mem _ h)
  have hown : s.vm.findClass RX10 = some m.cls := findClass_of_methodNamed B.named
  have hlocks := B.notSynchronized
  have hin : meth.name = "<init>" := (name_of_methodNamed B.named B.method).1
  have hK := hSt.1
  have hS : va_S (gb_ge b) s.heap s.heap [] := va_S.rf
  have hl := lv_entry ([.ref (b + 0)]) (n := 1) (Nat.le_of_ble_eq_true rfl)
  rw [lg_entry_eq]
  generalize (lg_sl ([.ref (b + 0)]) ++ List.replicate (1 - (lg_sl ([.ref (b + 0)])).length) Slot.unset).toArray = ls at hl ⊢
  have hl : lv_has ls 1 [(0, .ref (b + 0))] := hl
  refine lv_aload_n hx hb dX10_init_0 rfl (lv_at hl 0 rfl) ?_
  refine W.objInit hx hb hown (hq _ w_35) (hq _ w_28) (hq _ w_29) rfl (by rw [hml]; exact hl.1) rfl dX10_init_1 (Nat.le_of_ble_eq_true rfl) (Nat.le_of_ble_eq_true rfl) ?_
  refine W.eq (g2 := F0 m 4 ls []) rfl ?_
  refine lv_aload_n hx hb dX10_init_4 rfl (lv_at hl 0 rfl) ?_
  refine lv_iconst (v := 2) hx hb dX10_init_5 (by decide) ?_
  refine gb_newq (N' := 2) hx hb hown (hq _ w_36) (hSt.2.2.1 _ (by decide)) hK hP hS 1 hz rfl 4 rfl (by decide) (by decide) (Nat.le_of_ble_eq_true rfl) (Nat.le_of_ble_eq_true rfl) (Nat.le_of_ble_eq_true rfl) dX10_init_6 (fun H hP hz hS => ?_)
  have hP : va_P D vwCl (gb_wl b [.inr (8, [.null, .null, .null, .null, .null, .null, .int 0, .int 0, .int 0]), .inl (cT 4, 2, .inr (.inr (.inr (.inr (fun _ => none)))))]) H := hP
  refine W.widen (k := 1) (n := 2) (Nat.le_of_ble_eq_true rfl) (Nat.le_of_ble_eq_true rfl) ?_
  refine lv_dup hx hb dX10_init_9 rfl ?_
  refine lv_iconst (v := 0) hx hb dX10_init_10 (by decide) ?_
  refine gb_new (ci := 0) (fs := [.null]) (C := RX0) (T := TX0) (N := 1) hx hb hq i_X0 tyX0 tyX0_ok hown (hq _ w_36) (hq _ w_38) (hq _ w_4) hK hP hS 2 hz rfl rfl (fun j hj => by rcases (show j = 0 by omega) with rfl <;> rfl) (Nat.le_of_ble_eq_true rfl) (Nat.le_of_ble_eq_true rfl) dX10_init_11 (fun H hP hz hS => ?_)
  have hP : va_P D vwCl (gb_wl b [.inr (8, [.null, .null, .null, .null, .null, .null, .int 0, .int 0, .int 0]), .inl (cT 4, 2, .inr (.inr (.inr (.inr (fun _ => none))))), .inr (0, [.null])]) H := hP
  refine W.widen (k := 2) (n := 3) (Nat.le_of_ble_eq_true rfl) (Nat.le_of_ble_eq_true rfl) ?_
  refine lv_dup hx hb dX10_init_14 rfl ?_
  have hPc := gb_drop hP 2 (suf := [.inr (0, [.null])]) rfl rfl
  refine gb_callv (va_runI (As := []) (rest := [.ref (b + 2), .int 0, .ref (b + 1), .ref (b + 1), .ref (b + 0)]) ⟨hx, hb, hml, hown, hq⟩ (k_X0_init l D cT tt b1 (b + 2) (Nat.le_trans hb1 (Nat.le_add_right b 2))) (cwI 0 hq (gb_gI w_41) rfl rfl rfl (hq _ w_4) (hq _ w_39) (hq _ w_40) rfl (by decide +kernel) ⟨Nat.le_of_ble_eq_true rfl, Nat.le_of_ble_eq_true rfl⟩) (gb_preS hSt hS (fun q h => Nat.le_trans hb1 h) (show va_P D vwCl (gb_wl (b + 2) [.inr (0, [.null])]) H ∧ Array.size H = b + 2 + 1 from ⟨hPc, hz⟩)) rfl rfl hl.1 rfl (lv_room (Nat.le_of_ble_eq_true rfl)) dX10_init_15 ⟨Nat.le_of_ble_eq_true rfl, Nat.le_of_ble_eq_true rfl⟩) hS (fun q h => Nat.le_trans (Nat.le_add_right b 2) h) (fun q h => Nat.le_trans (Nat.le_add_right b 2) h) (fun H locs hY hk hS => ?_)
  have hP := gb_glue hP 2 (pre := [.inr (8, [.null, .null, .null, .null, .null, .null, .int 0, .int 0, .int 0]), .inl (cT 4, 2, .inr (.inr (.inr (.inr (fun _ => none)))))]) rfl rfl hk hY.1
  have hP : va_P D vwCl (gb_wl b [.inr (8, [.null, .null, .null, .null, .null, .null, .int 0, .int 0, .int 0]), .inl (cT 4, 2, .inr (.inr (.inr (.inr (fun _ => none))))), .inr (0, [.ref (b + 3)]), .inl (cT 0, 58, .inl (upd (fun _ => 0) 2 (-1)))]) H := hP
  have hz : Array.size H = b + 4 := hY.2
  refine W.widen (k := 3) (n := 61) (Nat.le_of_ble_eq_true rfl) (Nat.le_of_ble_eq_true rfl) ?_
  refine gb_astq (E := "GooseBorder$Border") hx hb hK hP (fun k _ => Nat.le_add_right b k) hS hz 1 4 2 0 rfl rfl (Or.inl rfl) rfl rfl (gb_in rfl) dX10_init_18 (fun H locs hP hz hS => ?_)
  have hP : va_P D vwCl (gb_wl b [.inr (8, [.null, .null, .null, .null, .null, .null, .int 0, .int 0, .int 0]), .inl (cT 4, 2, .inr (.inr (.inr (.inr (va_up (fun _ => none) 0 (some (b + 2))))))), .inr (0, [.ref (b + 3)]), .inl (cT 0, 58, .inl (upd (fun _ => 0) 2 (-1)))]) H := hP
  refine lv_dup hx hb dX10_init_19 rfl ?_
  refine lv_iconst (v := 1) hx hb dX10_init_20 (by decide) ?_
  refine gb_new (ci := 0) (fs := [.null]) (C := RX0) (T := TX0) (N := 1) hx hb hq i_X0 tyX0 tyX0_ok hown (hq _ w_36) (hq _ w_38) (hq _ w_4) hK hP hS 4 hz rfl rfl (fun j hj => by rcases (show j = 0 by omega) with rfl <;> rfl) (Nat.le_of_ble_eq_true rfl) (Nat.le_of_ble_eq_true rfl) dX10_init_21 (fun H hP hz hS => ?_)
  have hP : va_P D vwCl (gb_wl b [.inr (8, [.null, .null, .null, .null, .null, .null, .int 0, .int 0, .int 0]), .inl (cT 4, 2, .inr (.inr (.inr (.inr (va_up (fun _ => none) 0 (some (b + 2))))))), .inr (0, [.ref (b + 3)]), .inl (cT 0, 58, .inl (upd (fun _ => 0) 2 (-1))), .inr (0, [.null])]) H := hP
  refine W.widen (k := 4) (n := 62) (Nat.le_of_ble_eq_true rfl) (Nat.le_of_ble_eq_true rfl) ?_
  refine lv_dup hx hb dX10_init_24 rfl ?_
  have hPc := gb_drop hP 4 (suf := [.inr (0, [.null])]) rfl rfl
  refine gb_callv (va_runI (As := []) (rest := [.ref (b + 4), .int 1, .ref (b + 1), .ref (b + 1), .ref (b + 0)]) ⟨hx, hb, hml, hown, hq⟩ (k_X0_init l D cT tt b1 (b + 4) (Nat.le_trans hb1 (Nat.le_add_right b 4))) (cwI 0 hq (gb_gI w_41) rfl rfl rfl (hq _ w_4) (hq _ w_39) (hq _ w_40) rfl (by decide +kernel) ⟨Nat.le_of_ble_eq_true rfl, Nat.le_of_ble_eq_true rfl⟩) (gb_preS hSt hS (fun q h => Nat.le_trans hb1 h) (show va_P D vwCl (gb_wl (b + 4) [.inr (0, [.null])]) H ∧ Array.size H = b + 4 + 1 from ⟨hPc, hz⟩)) rfl rfl hl.1 rfl (lv_room (Nat.le_of_ble_eq_true rfl)) dX10_init_25 ⟨Nat.le_of_ble_eq_true rfl, Nat.le_of_ble_eq_true rfl⟩) hS (fun q h => Nat.le_trans (Nat.le_add_right b 4) h) (fun q h => Nat.le_trans (Nat.le_add_right b 4) h) (fun H locs hY hk hS => ?_)
  have hP := gb_glue hP 4 (pre := [.inr (8, [.null, .null, .null, .null, .null, .null, .int 0, .int 0, .int 0]), .inl (cT 4, 2, .inr (.inr (.inr (.inr (va_up (fun _ => none) 0 (some (b + 2))))))), .inr (0, [.ref (b + 3)]), .inl (cT 0, 58, .inl (upd (fun _ => 0) 2 (-1)))]) rfl rfl hk hY.1
  have hP : va_P D vwCl (gb_wl b [.inr (8, [.null, .null, .null, .null, .null, .null, .int 0, .int 0, .int 0]), .inl (cT 4, 2, .inr (.inr (.inr (.inr (va_up (fun _ => none) 0 (some (b + 2))))))), .inr (0, [.ref (b + 3)]), .inl (cT 0, 58, .inl (upd (fun _ => 0) 2 (-1))), .inr (0, [.ref (b + 5)]), .inl (cT 0, 58, .inl (upd (fun _ => 0) 2 (-1)))]) H := hP
  have hz : Array.size H = b + 6 := hY.2
  refine W.widen (k := 5) (n := 120) (Nat.le_of_ble_eq_true rfl) (Nat.le_of_ble_eq_true rfl) ?_
  refine gb_astq (E := "GooseBorder$Border") hx hb hK hP (fun k _ => Nat.le_add_right b k) hS hz 1 4 4 0 rfl rfl (Or.inl rfl) rfl rfl (gb_in rfl) dX10_init_28 (fun H locs hP hz hS => ?_)
  have hP : va_P D vwCl (gb_wl b [.inr (8, [.null, .null, .null, .null, .null, .null, .int 0, .int 0, .int 0]), .inl (cT 4, 2, .inr (.inr (.inr (.inr (va_up (va_up (fun _ => none) 0 (some (b + 2))) 1 (some (b + 4))))))), .inr (0, [.ref (b + 3)]), .inl (cT 0, 58, .inl (upd (fun _ => 0) 2 (-1))), .inr (0, [.ref (b + 5)]), .inl (cT 0, 58, .inl (upd (fun _ => 0) 2 (-1)))]) H := hP
  refine gb_putF (ci := 8) (v := (.ref (b + 1))) (ty := .array (.object "GooseBorder$Border")) (C := RX10) (T := TX10) (N := 9) hx hb hq i_X10 tyX10 tyX10_ok nmX10 hown hK hP (fun k _ => Nat.le_add_right b k) hS hz 0 rfl rfl 0 (by decide) (hq _ w_112) (fun _ h9 => h9) rfl hin rfl (by decide +kernel) rfl rfl (Nat.le_of_ble_eq_true rfl) dX10_init_29 (fun H locs hP hz hS => ?_)
  have hP : va_P D vwCl (gb_wl b [.inr (8, [.ref (b + 1), .null, .null, .null, .null, .null, .int 0, .int 0, .int 0]), .inl (cT 4, 2, .inr (.inr (.inr (.inr (va_up (va_up (fun _ => none) 0 (some (b + 2))) 1 (some (b + 4))))))), .inr (0, [.ref (b + 3)]), .inl (cT 0, 58, .inl (upd (fun _ => 0) 2 (-1))), .inr (0, [.ref (b + 5)]), .inl (cT 0, 58, .inl (upd (fun _ => 0) 2 (-1)))]) H := hP
  refine lv_aload_n hx hb dX10_init_32 rfl (lv_at hl 0 rfl) ?_
  refine lv_iconst (v := 2) hx hb dX10_init_33 (by decide) ?_
  refine gb_newq (N' := 2) hx hb hown (hq _ w_60) (hSt.2.2.1 _ (by decide)) hK hP hS 6 hz rfl 5 rfl (by decide) (by decide) (Nat.le_of_ble_eq_true rfl) (Nat.le_of_ble_eq_true rfl) (Nat.le_of_ble_eq_true rfl) dX10_init_34 (fun H hP hz hS => ?_)
  have hP : va_P D vwCl (gb_wl b [.inr (8, [.ref (b + 1), .null, .null, .null, .null, .null, .int 0, .int 0, .int 0]), .inl (cT 4, 2, .inr (.inr (.inr (.inr (va_up (va_up (fun _ => none) 0 (some (b + 2))) 1 (some (b + 4))))))), .inr (0, [.ref (b + 3)]), .inl (cT 0, 58, .inl (upd (fun _ => 0) 2 (-1))), .inr (0, [.ref (b + 5)]), .inl (cT 0, 58, .inl (upd (fun _ => 0) 2 (-1))), .inl (cT 5, 2, .inr (.inr (.inr (.inr (fun _ => none)))))]) H := hP
  refine W.widen (k := 6) (n := 122) (Nat.le_of_ble_eq_true rfl) (Nat.le_of_ble_eq_true rfl) ?_
  refine lv_dup hx hb dX10_init_37 rfl ?_
  refine lv_iconst (v := 0) hx hb dX10_init_38 (by decide) ?_
  refine gb_new (ci := 4) (fs := [.int 0, .int 0, .int 0, .null]) (C := RX5) (T := TX5) (N := 4) hx hb hq i_X5 tyX5 tyX5_ok hown (hq _ w_60) (hq _ w_62) (hq _ w_7) hK hP hS 7 hz rfl rfl (fun j hj => by rcases (show j = 0 ∨ j = 1 ∨ j = 2 ∨ j = 3 by omega) with rfl | rfl | rfl | rfl <;> rfl) (Nat.le_of_ble_eq_true rfl) (Nat.le_of_ble_eq_true rfl) dX10_init_39 (fun H hP hz hS => ?_)
  have hP : va_P D vwCl (gb_wl b [.inr (8, [.ref (b + 1), .null, .null, .null, .null, .null, .int 0, .int 0, .int 0]), .inl (cT 4, 2, .inr (.inr (.inr (.inr (va_up (va_up (fun _ => none) 0 (some (b + 2))) 1 (some (b + 4))))))), .inr (0, [.ref (b + 3)]), .inl (cT 0, 58, .inl (upd (fun _ => 0) 2 (-1))), .inr (0, [.ref (b + 5)]), .inl (cT 0, 58, .inl (upd (fun _ => 0) 2 (-1))), .inl (cT 5, 2, .inr (.inr (.inr (.inr (fun _ => none))))), .inr (4, [.int 0, .int 0, .int 0, .null])]) H := hP
  refine W.widen (k := 7) (n := 126) (Nat.le_of_ble_eq_true rfl) (Nat.le_of_ble_eq_true rfl) ?_
  refine lv_dup hx hb dX10_init_42 rfl ?_
  have hPc := gb_drop hP 7 (suf := [.inr (4, [.int 0, .int 0, .int 0, .null])]) rfl rfl
  refine gb_callv (va_runI (As := []) (rest := [.ref (b + 7), .int 0, .ref (b + 6), .ref (b + 6), .ref (b + 0)]) ⟨hx, hb, hml, hown, hq⟩ (k_X5_init l D cT tt b1 (b + 7) (Nat.le_trans hb1 (Nat.le_add_right b 7))) (cwI 0 hq (gb_gI w_65) rfl rfl rfl (hq _ w_7) (hq _ w_63) (hq _ w_64) rfl (by decide +kernel) ⟨Nat.le_of_ble_eq_true rfl, Nat.le_of_ble_eq_true rfl⟩) (gb_preS hSt hS (fun q h => Nat.le_trans hb1 h) (show va_P D vwCl (gb_wl (b + 7) [.inr (4, [.int 0, .int 0, .int 0, .null])]) H ∧ Array.size H = b + 7 + 1 from ⟨hPc, hz⟩)) rfl rfl hl.1 rfl (lv_room (Nat.le_of_ble_eq_true rfl)) dX10_init_43 ⟨Nat.le_of_ble_eq_true rfl, Nat.le_of_ble_eq_true rfl⟩) hS (fun q h => Nat.le_trans (Nat.le_add_right b 7) h) (fun q h => Nat.le_trans (Nat.le_add_right b 7) h) (fun H locs hY hk hS => ?_)
  have hP := gb_glue hP 7 (pre := [.inr (8, [.ref (b + 1), .null, .null, .null, .null, .null, .int 0, .int 0, .int 0]), .inl (cT 4, 2, .inr (.inr (.inr (.inr (va_up (va_up (fun _ => none) 0 (some (b + 2))) 1 (some (b + 4))))))), .inr (0, [.ref (b + 3)]), .inl (cT 0, 58, .inl (upd (fun _ => 0) 2 (-1))), .inr (0, [.ref (b + 5)]), .inl (cT 0, 58, .inl (upd (fun _ => 0) 2 (-1))), .inl (cT 5, 2, .inr (.inr (.inr (.inr (fun _ => none)))))]) rfl rfl hk hY.1
  have hP : va_P D vwCl (gb_wl b [.inr (8, [.ref (b + 1), .null, .null, .null, .null, .null, .int 0, .int 0, .int 0]), .inl (cT 4, 2, .inr (.inr (.inr (.inr (va_up (va_up (fun _ => none) 0 (some (b + 2))) 1 (some (b + 4))))))), .inr (0, [.ref (b + 3)]), .inl (cT 0, 58, .inl (upd (fun _ => 0) 2 (-1))), .inr (0, [.ref (b + 5)]), .inl (cT 0, 58, .inl (upd (fun _ => 0) 2 (-1))), .inl (cT 5, 2, .inr (.inr (.inr (.inr (fun _ => none))))), .inr (4, [.int 24, .int 3, .int 3, .ref (b + 8)]), .inl (cT 0, 97, .inl (fun _ => 0))]) H := hP
  have hz : Array.size H = b + 9 := hY.2
  refine W.widen (k := 8) (n := 223) (Nat.le_of_ble_eq_true rfl) (Nat.le_of_ble_eq_true rfl) ?_
  refine gb_astq (E := "GooseBorder$Night") hx hb hK hP (fun k _ => Nat.le_add_right b k) hS hz 6 5 7 4 rfl rfl (Or.inl rfl) rfl rfl (gb_in rfl) dX10_init_46 (fun H locs hP hz hS => ?_)
  have hP : va_P D vwCl (gb_wl b [.inr (8, [.ref (b + 1), .null, .null, .null, .null, .null, .int 0, .int 0, .int 0]), .inl (cT 4, 2, .inr (.inr (.inr (.inr (va_up (va_up (fun _ => none) 0 (some (b + 2))) 1 (some (b + 4))))))), .inr (0, [.ref (b + 3)]), .inl (cT 0, 58, .inl (upd (fun _ => 0) 2 (-1))), .inr (0, [.ref (b + 5)]), .inl (cT 0, 58, .inl (upd (fun _ => 0) 2 (-1))), .inl (cT 5, 2, .inr (.inr (.inr (.inr (va_up (fun _ => none) 0 (some (b + 7))))))), .inr (4, [.int 24, .int 3, .int 3, .ref (b + 8)]), .inl (cT 0, 97, .inl (fun _ => 0))]) H := hP
  refine lv_dup hx hb dX10_init_47 rfl ?_
  refine lv_iconst (v := 1) hx hb dX10_init_48 (by decide) ?_
  refine gb_new (ci := 4) (fs := [.int 0, .int 0, .int 0, .null]) (C := RX5) (T := TX5) (N := 4) hx hb hq i_X5 tyX5 tyX5_ok hown (hq _ w_60) (hq _ w_62) (hq _ w_7) hK hP hS 9 hz rfl rfl (fun j hj => by rcases (show j = 0 ∨ j = 1 ∨ j = 2 ∨ j = 3 by omega) with rfl | rfl | rfl | rfl <;> rfl) (Nat.le_of_ble_eq_true rfl) (Nat.le_of_ble_eq_true rfl) dX10_init_49 (fun H hP hz hS => ?_)
  have hP : va_P D vwCl (gb_wl b [.inr (8, [.ref (b + 1), .null, .null, .null, .null, .null, .int 0, .int 0, .int 0]), .inl (cT 4, 2, .inr (.inr (.inr (.inr (va_up (va_up (fun _ => none) 0 (some (b + 2))) 1 (some (b + 4))))))), .inr (0, [.ref (b + 3)]), .inl (cT 0, 58, .inl (upd (fun _ => 0) 2 (-1))), .inr (0, [.ref (b + 5)]), .inl (cT 0, 58, .inl (upd (fun _ => 0) 2 (-1))), .inl (cT 5, 2, .inr (.inr (.inr (.inr (va_up (fun _ => none) 0 (some (b + 7))))))), .inr (4, [.int 24, .int 3, .int 3, .ref (b + 8)]), .inl (cT 0, 97, .inl (fun _ => 0)), .inr (4, [.int 0, .int 0, .int 0, .null])]) H := hP
  refine W.widen (k := 9) (n := 227) (Nat.le_of_ble_eq_true rfl) (Nat.le_of_ble_eq_true rfl) ?_
  refine lv_dup hx hb dX10_init_52 rfl ?_
  have hPc := gb_drop hP 9 (suf := [.inr (4, [.int 0, .int 0, .int 0, .null])]) rfl rfl
  refine gb_callv (va_runI (As := []) (rest := [.ref (b + 9), .int 1, .ref (b + 6), .ref (b + 6), .ref (b + 0)]) ⟨hx, hb, hml, hown, hq⟩ (k_X5_init l D cT tt b1 (b + 9) (Nat.le_trans hb1 (Nat.le_add_right b 9))) (cwI 0 hq (gb_gI w_65) rfl rfl rfl (hq _ w_7) (hq _ w_63) (hq _ w_64) rfl (by decide +kernel) ⟨Nat.le_of_ble_eq_true rfl, Nat.le_of_ble_eq_true rfl⟩) (gb_preS hSt hS (fun q h => Nat.le_trans hb1 h) (show va_P D vwCl (gb_wl (b + 9) [.inr (4, [.int 0, .int 0, .int 0, .null])]) H ∧ Array.size H = b + 9 + 1 from ⟨hPc, hz⟩)) rfl rfl hl.1 rfl (lv_room (Nat.le_of_ble_eq_true rfl)) dX10_init_53 ⟨Nat.le_of_ble_eq_true rfl, Nat.le_of_ble_eq_true rfl⟩) hS (fun q h => Nat.le_trans (Nat.le_add_right b 9) h) (fun q h => Nat.le_trans (Nat.le_add_right b 9) h) (fun H locs hY hk hS => ?_)
  have hP := gb_glue hP 9 (pre := [.inr (8, [.ref (b + 1), .null, .null, .null, .null, .null, .int 0, .int 0, .int 0]), .inl (cT 4, 2, .inr (.inr (.inr (.inr (va_up (va_up (fun _ => none) 0 (some (b + 2))) 1 (some (b + 4))))))), .inr (0, [.ref (b + 3)]), .inl (cT 0, 58, .inl (upd (fun _ => 0) 2 (-1))), .inr (0, [.ref (b + 5)]), .inl (cT 0, 58, .inl (upd (fun _ => 0) 2 (-1))), .inl (cT 5, 2, .inr (.inr (.inr (.inr (va_up (fun _ => none) 0 (some (b + 7))))))), .inr (4, [.int 24, .int 3, .int 3, .ref (b + 8)]), .inl (cT 0, 97, .inl (fun _ => 0))]) rfl rfl hk hY.1
  have hP : va_P D vwCl (gb_wl b [.inr (8, [.ref (b + 1), .null, .null, .null, .null, .null, .int 0, .int 0, .int 0]), .inl (cT 4, 2, .inr (.inr (.inr (.inr (va_up (va_up (fun _ => none) 0 (some (b + 2))) 1 (some (b + 4))))))), .inr (0, [.ref (b + 3)]), .inl (cT 0, 58, .inl (upd (fun _ => 0) 2 (-1))), .inr (0, [.ref (b + 5)]), .inl (cT 0, 58, .inl (upd (fun _ => 0) 2 (-1))), .inl (cT 5, 2, .inr (.inr (.inr (.inr (va_up (fun _ => none) 0 (some (b + 7))))))), .inr (4, [.int 24, .int 3, .int 3, .ref (b + 8)]), .inl (cT 0, 97, .inl (fun _ => 0)), .inr (4, [.int 24, .int 3, .int 3, .ref (b + 10)]), .inl (cT 0, 97, .inl (fun _ => 0))]) H := hP
  have hz : Array.size H = b + 11 := hY.2
  refine W.widen (k := 10) (n := 324) (Nat.le_of_ble_eq_true rfl) (Nat.le_of_ble_eq_true rfl) ?_
  refine gb_astq (E := "GooseBorder$Night") hx hb hK hP (fun k _ => Nat.le_add_right b k) hS hz 6 5 9 4 rfl rfl (Or.inl rfl) rfl rfl (gb_in rfl) dX10_init_56 (fun H locs hP hz hS => ?_)
  have hP : va_P D vwCl (gb_wl b [.inr (8, [.ref (b + 1), .null, .null, .null, .null, .null, .int 0, .int 0, .int 0]), .inl (cT 4, 2, .inr (.inr (.inr (.inr (va_up (va_up (fun _ => none) 0 (some (b + 2))) 1 (some (b + 4))))))), .inr (0, [.ref (b + 3)]), .inl (cT 0, 58, .inl (upd (fun _ => 0) 2 (-1))), .inr (0, [.ref (b + 5)]), .inl (cT 0, 58, .inl (upd (fun _ => 0) 2 (-1))), .inl (cT 5, 2, .inr (.inr (.inr (.inr (va_up (va_up (fun _ => none) 0 (some (b + 7))) 1 (some (b + 9))))))), .inr (4, [.int 24, .int 3, .int 3, .ref (b + 8)]), .inl (cT 0, 97, .inl (fun _ => 0)), .inr (4, [.int 24, .int 3, .int 3, .ref (b + 10)]), .inl (cT 0, 97, .inl (fun _ => 0))]) H := hP
  refine gb_putF (ci := 8) (v := (.ref (b + 6))) (ty := .array (.object "GooseBorder$Night")) (C := RX10) (T := TX10) (N := 9) hx hb hq i_X10 tyX10 tyX10_ok nmX10 hown hK hP (fun k _ => Nat.le_add_right b k) hS hz 0 rfl rfl 1 (by decide) (hq _ w_114) (fun _ h9 => h9) rfl hin rfl (by decide +kernel) rfl rfl (Nat.le_of_ble_eq_true rfl) dX10_init_57 (fun H locs hP hz hS => ?_)
  have hP : va_P D vwCl (gb_wl b [.inr (8, [.ref (b + 1), .ref (b + 6), .null, .null, .null, .null, .int 0, .int 0, .int 0]), .inl (cT 4, 2, .inr (.inr (.inr (.inr (va_up (va_up (fun _ => none) 0 (some (b + 2))) 1 (some (b + 4))))))), .inr (0, [.ref (b + 3)]), .inl (cT 0, 58, .inl (upd (fun _ => 0) 2 (-1))), .inr (0, [.ref (b + 5)]), .inl (cT 0, 58, .inl (upd (fun _ => 0) 2 (-1))), .inl (cT 5, 2, .inr (.inr (.inr (.inr (va_up (va_up (fun _ => none) 0 (some (b + 7))) 1 (some (b + 9))))))), .inr (4, [.int 24, .int 3, .int 3, .ref (b + 8)]), .inl (cT 0, 97, .inl (fun _ => 0)), .inr (4, [.int 24, .int 3, .int 3, .ref (b + 10)]), .inl (cT 0, 97, .inl (fun _ => 0))]) H := hP
  refine lv_aload_n hx hb dX10_init_60 rfl (lv_at hl 0 rfl) ?_
  refine lv_iconst (v := 2) hx hb dX10_init_61 (by decide) ?_
  refine gb_newq (N' := 2) hx hb hown (hq _ w_86) (hSt.2.2.1 _ (by decide)) hK hP hS 11 hz rfl 6 rfl (by decide) (by decide) (Nat.le_of_ble_eq_true rfl) (Nat.le_of_ble_eq_true rfl) (Nat.le_of_ble_eq_true rfl) dX10_init_62 (fun H hP hz hS => ?_)
  have hP : va_P D vwCl (gb_wl b [.inr (8, [.ref (b + 1), .ref (b + 6), .null, .null, .null, .null, .int 0, .int 0, .int 0]), .inl (cT 4, 2, .inr (.inr (.inr (.inr (va_up (va_up (fun _ => none) 0 (some (b + 2))) 1 (some (b + 4))))))), .inr (0, [.ref (b + 3)]), .inl (cT 0, 58, .inl (upd (fun _ => 0) 2 (-1))), .inr (0, [.ref (b + 5)]), .inl (cT 0, 58, .inl (upd (fun _ => 0) 2 (-1))), .inl (cT 5, 2, .inr (.inr (.inr (.inr (va_up (va_up (fun _ => none) 0 (some (b + 7))) 1 (some (b + 9))))))), .inr (4, [.int 24, .int 3, .int 3, .ref (b + 8)]), .inl (cT 0, 97, .inl (fun _ => 0)), .inr (4, [.int 24, .int 3, .int 3, .ref (b + 10)]), .inl (cT 0, 97, .inl (fun _ => 0)), .inl (cT 6, 2, .inr (.inr (.inr (.inr (fun _ => none)))))]) H := hP
  refine W.widen (k := 11) (n := 326) (Nat.le_of_ble_eq_true rfl) (Nat.le_of_ble_eq_true rfl) ?_
  refine lv_dup hx hb dX10_init_65 rfl ?_
  refine lv_iconst (v := 0) hx hb dX10_init_66 (by decide) ?_
  refine gb_new (ci := 3) (fs := [.int 0, .int 0, .int 0, .null]) (C := RX3) (T := TX3) (N := 4) hx hb hq i_X3 tyX3 tyX3_ok hown (hq _ w_86) (hq _ w_88) (hq _ w_8) hK hP hS 12 hz rfl rfl (fun j hj => by rcases (show j = 0 ∨ j = 1 ∨ j = 2 ∨ j = 3 by omega) with rfl | rfl | rfl | rfl <;> rfl) (Nat.le_of_ble_eq_true rfl) (Nat.le_of_ble_eq_true rfl) dX10_init_67 (fun H hP hz hS => ?_)
  have hP : va_P D vwCl (gb_wl b [.inr (8, [.ref (b + 1), .ref (b + 6), .null, .null, .null, .null, .int 0, .int 0, .int 0]), .inl (cT 4, 2, .inr (.inr (.inr (.inr (va_up (va_up (fun _ => none) 0 (some (b + 2))) 1 (some (b + 4))))))), .inr (0, [.ref (b + 3)]), .inl (cT 0, 58, .inl (upd (fun _ => 0) 2 (-1))), .inr (0, [.ref (b + 5)]), .inl (cT 0, 58, .inl (upd (fun _ => 0) 2 (-1))), .inl (cT 5, 2, .inr (.inr (.inr (.inr (va_up (va_up (fun _ => none) 0 (some (b + 7))) 1 (some (b + 9))))))), .inr (4, [.int 24, .int 3, .int 3, .ref (b + 8)]), .inl (cT 0, 97, .inl (fun _ => 0)), .inr (4, [.int 24, .int 3, .int 3, .ref (b + 10)]), .inl (cT 0, 97, .inl (fun _ => 0)), .inl (cT 6, 2, .inr (.inr (.inr (.inr (fun _ => none))))), .inr (3, [.int 0, .int 0, .int 0, .null])]) H := hP
  refine W.widen (k := 12) (n := 330) (Nat.le_of_ble_eq_true rfl) (Nat.le_of_ble_eq_true rfl) ?_
  refine lv_dup hx hb dX10_init_70 rfl ?_
  have hPc := gb_drop hP 12 (suf := [.inr (3, [.int 0, .int 0, .int 0, .null])]) rfl rfl
  refine gb_callv (va_runI (As := []) (rest := [.ref (b + 12), .int 0, .ref (b + 11), .ref (b + 11), .ref (b + 0)]) ⟨hx, hb, hml, hown, hq⟩ (k_X3_init l D cT tt b1 (b + 12) (Nat.le_trans hb1 (Nat.le_add_right b 12))) (cwI 0 hq (gb_gI w_91) rfl rfl rfl (hq _ w_8) (hq _ w_89) (hq _ w_90) rfl (by decide +kernel) ⟨Nat.le_of_ble_eq_true rfl, Nat.le_of_ble_eq_true rfl⟩) (gb_preS hSt hS (fun q h => Nat.le_trans hb1 h) (show va_P D vwCl (gb_wl (b + 12) [.inr (3, [.int 0, .int 0, .int 0, .null])]) H ∧ Array.size H = b + 12 + 1 from ⟨hPc, hz⟩)) rfl rfl hl.1 rfl (lv_room (Nat.le_of_ble_eq_true rfl)) dX10_init_71 ⟨Nat.le_of_ble_eq_true rfl, Nat.le_of_ble_eq_true rfl⟩) hS (fun q h => Nat.le_trans (Nat.le_add_right b 12) h) (fun q h => Nat.le_trans (Nat.le_add_right b 12) h) (fun H locs hY hk hS => ?_)
  have hP := gb_glue hP 12 (pre := [.inr (8, [.ref (b + 1), .ref (b + 6), .null, .null, .null, .null, .int 0, .int 0, .int 0]), .inl (cT 4, 2, .inr (.inr (.inr (.inr (va_up (va_up (fun _ => none) 0 (some (b + 2))) 1 (some (b + 4))))))), .inr (0, [.ref (b + 3)]), .inl (cT 0, 58, .inl (upd (fun _ => 0) 2 (-1))), .inr (0, [.ref (b + 5)]), .inl (cT 0, 58, .inl (upd (fun _ => 0) 2 (-1))), .inl (cT 5, 2, .inr (.inr (.inr (.inr (va_up (va_up (fun _ => none) 0 (some (b + 7))) 1 (some (b + 9))))))), .inr (4, [.int 24, .int 3, .int 3, .ref (b + 8)]), .inl (cT 0, 97, .inl (fun _ => 0)), .inr (4, [.int 24, .int 3, .int 3, .ref (b + 10)]), .inl (cT 0, 97, .inl (fun _ => 0)), .inl (cT 6, 2, .inr (.inr (.inr (.inr (fun _ => none)))))]) rfl rfl hk hY.1
  have hP : va_P D vwCl (gb_wl b [.inr (8, [.ref (b + 1), .ref (b + 6), .null, .null, .null, .null, .int 0, .int 0, .int 0]), .inl (cT 4, 2, .inr (.inr (.inr (.inr (va_up (va_up (fun _ => none) 0 (some (b + 2))) 1 (some (b + 4))))))), .inr (0, [.ref (b + 3)]), .inl (cT 0, 58, .inl (upd (fun _ => 0) 2 (-1))), .inr (0, [.ref (b + 5)]), .inl (cT 0, 58, .inl (upd (fun _ => 0) 2 (-1))), .inl (cT 5, 2, .inr (.inr (.inr (.inr (va_up (va_up (fun _ => none) 0 (some (b + 7))) 1 (some (b + 9))))))), .inr (4, [.int 24, .int 3, .int 3, .ref (b + 8)]), .inl (cT 0, 97, .inl (fun _ => 0)), .inr (4, [.int 24, .int 3, .int 3, .ref (b + 10)]), .inl (cT 0, 97, .inl (fun _ => 0)), .inl (cT 6, 2, .inr (.inr (.inr (.inr (fun _ => none))))), .inr (3, [.int 8, .int 2, .int 12, .ref (b + 13)]), .inl (cT 0, 25, .inl (fun _ => 0))]) H := hP
  have hz : Array.size H = b + 14 := hY.2
  refine W.widen (k := 13) (n := 355) (Nat.le_of_ble_eq_true rfl) (Nat.le_of_ble_eq_true rfl) ?_
  refine gb_astq (E := "GooseBorder$Law") hx hb hK hP (fun k _ => Nat.le_add_right b k) hS hz 11 6 12 3 rfl rfl (Or.inl rfl) rfl rfl (gb_in rfl) dX10_init_74 (fun H locs hP hz hS => ?_)
  have hP : va_P D vwCl (gb_wl b [.inr (8, [.ref (b + 1), .ref (b + 6), .null, .null, .null, .null, .int 0, .int 0, .int 0]), .inl (cT 4, 2, .inr (.inr (.inr (.inr (va_up (va_up (fun _ => none) 0 (some (b + 2))) 1 (some (b + 4))))))), .inr (0, [.ref (b + 3)]), .inl (cT 0, 58, .inl (upd (fun _ => 0) 2 (-1))), .inr (0, [.ref (b + 5)]), .inl (cT 0, 58, .inl (upd (fun _ => 0) 2 (-1))), .inl (cT 5, 2, .inr (.inr (.inr (.inr (va_up (va_up (fun _ => none) 0 (some (b + 7))) 1 (some (b + 9))))))), .inr (4, [.int 24, .int 3, .int 3, .ref (b + 8)]), .inl (cT 0, 97, .inl (fun _ => 0)), .inr (4, [.int 24, .int 3, .int 3, .ref (b + 10)]), .inl (cT 0, 97, .inl (fun _ => 0)), .inl (cT 6, 2, .inr (.inr (.inr (.inr (va_up (fun _ => none) 0 (some (b + 12))))))), .inr (3, [.int 8, .int 2, .int 12, .ref (b + 13)]), .inl (cT 0, 25, .inl (fun _ => 0))]) H := hP
  refine lv_dup hx hb dX10_init_75 rfl ?_
  refine lv_iconst (v := 1) hx hb dX10_init_76 (by decide) ?_
  refine gb_new (ci := 3) (fs := [.int 0, .int 0, .int 0, .null]) (C := RX3) (T := TX3) (N := 4) hx hb hq i_X3 tyX3 tyX3_ok hown (hq _ w_86) (hq _ w_88) (hq _ w_8) hK hP hS 14 hz rfl rfl (fun j hj => by rcases (show j = 0 ∨ j = 1 ∨ j = 2 ∨ j = 3 by omega) with rfl | rfl | rfl | rfl <;> rfl) (Nat.le_of_ble_eq_true rfl) (Nat.le_of_ble_eq_true rfl) dX10_init_77 (fun H hP hz hS => ?_)
  have hP : va_P D vwCl (gb_wl b [.inr (8, [.ref (b + 1), .ref (b + 6), .null, .null, .null, .null, .int 0, .int 0, .int 0]), .inl (cT 4, 2, .inr (.inr (.inr (.inr (va_up (va_up (fun _ => none) 0 (some (b + 2))) 1 (some (b + 4))))))), .inr (0, [.ref (b + 3)]), .inl (cT 0, 58, .inl (upd (fun _ => 0) 2 (-1))), .inr (0, [.ref (b + 5)]), .inl (cT 0, 58, .inl (upd (fun _ => 0) 2 (-1))), .inl (cT 5, 2, .inr (.inr (.inr (.inr (va_up (va_up (fun _ => none) 0 (some (b + 7))) 1 (some (b + 9))))))), .inr (4, [.int 24, .int 3, .int 3, .ref (b + 8)]), .inl (cT 0, 97, .inl (fun _ => 0)), .inr (4, [.int 24, .int 3, .int 3, .ref (b + 10)]), .inl (cT 0, 97, .inl (fun _ => 0)), .inl (cT 6, 2, .inr (.inr (.inr (.inr (va_up (fun _ => none) 0 (some (b + 12))))))), .inr (3, [.int 8, .int 2, .int 12, .ref (b + 13)]), .inl (cT 0, 25, .inl (fun _ => 0)), .inr (3, [.int 0, .int 0, .int 0, .null])]) H := hP
  refine W.widen (k := 14) (n := 359) (Nat.le_of_ble_eq_true rfl) (Nat.le_of_ble_eq_true rfl) ?_
  refine lv_dup hx hb dX10_init_80 rfl ?_
  have hPc := gb_drop hP 14 (suf := [.inr (3, [.int 0, .int 0, .int 0, .null])]) rfl rfl
  refine gb_callv (va_runI (As := []) (rest := [.ref (b + 14), .int 1, .ref (b + 11), .ref (b + 11), .ref (b + 0)]) ⟨hx, hb, hml, hown, hq⟩ (k_X3_init l D cT tt b1 (b + 14) (Nat.le_trans hb1 (Nat.le_add_right b 14))) (cwI 0 hq (gb_gI w_91) rfl rfl rfl (hq _ w_8) (hq _ w_89) (hq _ w_90) rfl (by decide +kernel) ⟨Nat.le_of_ble_eq_true rfl, Nat.le_of_ble_eq_true rfl⟩) (gb_preS hSt hS (fun q h => Nat.le_trans hb1 h) (show va_P D vwCl (gb_wl (b + 14) [.inr (3, [.int 0, .int 0, .int 0, .null])]) H ∧ Array.size H = b + 14 + 1 from ⟨hPc, hz⟩)) rfl rfl hl.1 rfl (lv_room (Nat.le_of_ble_eq_true rfl)) dX10_init_81 ⟨Nat.le_of_ble_eq_true rfl, Nat.le_of_ble_eq_true rfl⟩) hS (fun q h => Nat.le_trans (Nat.le_add_right b 14) h) (fun q h => Nat.le_trans (Nat.le_add_right b 14) h) (fun H locs hY hk hS => ?_)
  have hP := gb_glue hP 14 (pre := [.inr (8, [.ref (b + 1), .ref (b + 6), .null, .null, .null, .null, .int 0, .int 0, .int 0]), .inl (cT 4, 2, .inr (.inr (.inr (.inr (va_up (va_up (fun _ => none) 0 (some (b + 2))) 1 (some (b + 4))))))), .inr (0, [.ref (b + 3)]), .inl (cT 0, 58, .inl (upd (fun _ => 0) 2 (-1))), .inr (0, [.ref (b + 5)]), .inl (cT 0, 58, .inl (upd (fun _ => 0) 2 (-1))), .inl (cT 5, 2, .inr (.inr (.inr (.inr (va_up (va_up (fun _ => none) 0 (some (b + 7))) 1 (some (b + 9))))))), .inr (4, [.int 24, .int 3, .int 3, .ref (b + 8)]), .inl (cT 0, 97, .inl (fun _ => 0)), .inr (4, [.int 24, .int 3, .int 3, .ref (b + 10)]), .inl (cT 0, 97, .inl (fun _ => 0)), .inl (cT 6, 2, .inr (.inr (.inr (.inr (va_up (fun _ => none) 0 (some (b + 12))))))), .inr (3, [.int 8, .int 2, .int 12, .ref (b + 13)]), .inl (cT 0, 25, .inl (fun _ => 0))]) rfl rfl hk hY.1
  have hP : va_P D vwCl (gb_wl b [.inr (8, [.ref (b + 1), .ref (b + 6), .null, .null, .null, .null, .int 0, .int 0, .int 0]), .inl (cT 4, 2, .inr (.inr (.inr (.inr (va_up (va_up (fun _ => none) 0 (some (b + 2))) 1 (some (b + 4))))))), .inr (0, [.ref (b + 3)]), .inl (cT 0, 58, .inl (upd (fun _ => 0) 2 (-1))), .inr (0, [.ref (b + 5)]), .inl (cT 0, 58, .inl (upd (fun _ => 0) 2 (-1))), .inl (cT 5, 2, .inr (.inr (.inr (.inr (va_up (va_up (fun _ => none) 0 (some (b + 7))) 1 (some (b + 9))))))), .inr (4, [.int 24, .int 3, .int 3, .ref (b + 8)]), .inl (cT 0, 97, .inl (fun _ => 0)), .inr (4, [.int 24, .int 3, .int 3, .ref (b + 10)]), .inl (cT 0, 97, .inl (fun _ => 0)), .inl (cT 6, 2, .inr (.inr (.inr (.inr (va_up (fun _ => none) 0 (some (b + 12))))))), .inr (3, [.int 8, .int 2, .int 12, .ref (b + 13)]), .inl (cT 0, 25, .inl (fun _ => 0)), .inr (3, [.int 8, .int 2, .int 12, .ref (b + 15)]), .inl (cT 0, 25, .inl (fun _ => 0))]) H := hP
  have hz : Array.size H = b + 16 := hY.2
  refine W.widen (k := 15) (n := 384) (Nat.le_of_ble_eq_true rfl) (Nat.le_of_ble_eq_true rfl) ?_
  refine gb_astq (E := "GooseBorder$Law") hx hb hK hP (fun k _ => Nat.le_add_right b k) hS hz 11 6 14 3 rfl rfl (Or.inl rfl) rfl rfl (gb_in rfl) dX10_init_84 (fun H locs hP hz hS => ?_)
  have hP : va_P D vwCl (gb_wl b [.inr (8, [.ref (b + 1), .ref (b + 6), .null, .null, .null, .null, .int 0, .int 0, .int 0]), .inl (cT 4, 2, .inr (.inr (.inr (.inr (va_up (va_up (fun _ => none) 0 (some (b + 2))) 1 (some (b + 4))))))), .inr (0, [.ref (b + 3)]), .inl (cT 0, 58, .inl (upd (fun _ => 0) 2 (-1))), .inr (0, [.ref (b + 5)]), .inl (cT 0, 58, .inl (upd (fun _ => 0) 2 (-1))), .inl (cT 5, 2, .inr (.inr (.inr (.inr (va_up (va_up (fun _ => none) 0 (some (b + 7))) 1 (some (b + 9))))))), .inr (4, [.int 24, .int 3, .int 3, .ref (b + 8)]), .inl (cT 0, 97, .inl (fun _ => 0)), .inr (4, [.int 24, .int 3, .int 3, .ref (b + 10)]), .inl (cT 0, 97, .inl (fun _ => 0)), .inl (cT 6, 2, .inr (.inr (.inr (.inr (va_up (va_up (fun _ => none) 0 (some (b + 12))) 1 (some (b + 14))))))), .inr (3, [.int 8, .int 2, .int 12, .ref (b + 13)]), .inl (cT 0, 25, .inl (fun _ => 0)), .inr (3, [.int 8, .int 2, .int 12, .ref (b + 15)]), .inl (cT 0, 25, .inl (fun _ => 0))]) H := hP
  refine gb_putF (ci := 8) (v := (.ref (b + 11))) (ty := .array (.object "GooseBorder$Law")) (C := RX10) (T := TX10) (N := 9) hx hb hq i_X10 tyX10 tyX10_ok nmX10 hown hK hP (fun k _ => Nat.le_add_right b k) hS hz 0 rfl rfl 2 (by decide) (hq _ w_116) (fun _ h9 => h9) rfl hin rfl (by decide +kernel) rfl rfl (Nat.le_of_ble_eq_true rfl) dX10_init_85 (fun H locs hP hz hS => ?_)
  have hP : va_P D vwCl (gb_wl b [.inr (8, [.ref (b + 1), .ref (b + 6), .ref (b + 11), .null, .null, .null, .int 0, .int 0, .int 0]), .inl (cT 4, 2, .inr (.inr (.inr (.inr (va_up (va_up (fun _ => none) 0 (some (b + 2))) 1 (some (b + 4))))))), .inr (0, [.ref (b + 3)]), .inl (cT 0, 58, .inl (upd (fun _ => 0) 2 (-1))), .inr (0, [.ref (b + 5)]), .inl (cT 0, 58, .inl (upd (fun _ => 0) 2 (-1))), .inl (cT 5, 2, .inr (.inr (.inr (.inr (va_up (va_up (fun _ => none) 0 (some (b + 7))) 1 (some (b + 9))))))), .inr (4, [.int 24, .int 3, .int 3, .ref (b + 8)]), .inl (cT 0, 97, .inl (fun _ => 0)), .inr (4, [.int 24, .int 3, .int 3, .ref (b + 10)]), .inl (cT 0, 97, .inl (fun _ => 0)), .inl (cT 6, 2, .inr (.inr (.inr (.inr (va_up (va_up (fun _ => none) 0 (some (b + 12))) 1 (some (b + 14))))))), .inr (3, [.int 8, .int 2, .int 12, .ref (b + 13)]), .inl (cT 0, 25, .inl (fun _ => 0)), .inr (3, [.int 8, .int 2, .int 12, .ref (b + 15)]), .inl (cT 0, 25, .inl (fun _ => 0))]) H := hP
  refine lv_aload_n hx hb dX10_init_88 rfl (lv_at hl 0 rfl) ?_
  refine lv_iconst (v := 2) hx hb dX10_init_89 (by decide) ?_
  refine gb_newq (N' := 2) hx hb hown (hq _ w_99) (hSt.2.2.1 _ (by decide)) hK hP hS 16 hz rfl 7 rfl (by decide) (by decide) (Nat.le_of_ble_eq_true rfl) (Nat.le_of_ble_eq_true rfl) (Nat.le_of_ble_eq_true rfl) dX10_init_90 (fun H hP hz hS => ?_)
  have hP : va_P D vwCl (gb_wl b [.inr (8, [.ref (b + 1), .ref (b + 6), .ref (b + 11), .null, .null, .null, .int 0, .int 0, .int 0]), .inl (cT 4, 2, .inr (.inr (.inr (.inr (va_up (va_up (fun _ => none) 0 (some (b + 2))) 1 (some (b + 4))))))), .inr (0, [.ref (b + 3)]), .inl (cT 0, 58, .inl (upd (fun _ => 0) 2 (-1))), .inr (0, [.ref (b + 5)]), .inl (cT 0, 58, .inl (upd (fun _ => 0) 2 (-1))), .inl (cT 5, 2, .inr (.inr (.inr (.inr (va_up (va_up (fun _ => none) 0 (some (b + 7))) 1 (some (b + 9))))))), .inr (4, [.int 24, .int 3, .int 3, .ref (b + 8)]), .inl (cT 0, 97, .inl (fun _ => 0)), .inr (4, [.int 24, .int 3, .int 3, .ref (b + 10)]), .inl (cT 0, 97, .inl (fun _ => 0)), .inl (cT 6, 2, .inr (.inr (.inr (.inr (va_up (va_up (fun _ => none) 0 (some (b + 12))) 1 (some (b + 14))))))), .inr (3, [.int 8, .int 2, .int 12, .ref (b + 13)]), .inl (cT 0, 25, .inl (fun _ => 0)), .inr (3, [.int 8, .int 2, .int 12, .ref (b + 15)]), .inl (cT 0, 25, .inl (fun _ => 0)), .inl (cT 7, 2, .inr (.inr (.inr (.inr (fun _ => none)))))]) H := hP
  refine W.widen (k := 16) (n := 386) (Nat.le_of_ble_eq_true rfl) (Nat.le_of_ble_eq_true rfl) ?_
  refine lv_dup hx hb dX10_init_93 rfl ?_
  refine lv_iconst (v := 0) hx hb dX10_init_94 (by decide) ?_
  refine gb_new (ci := 1) (fs := [.int 0, .int 0, .int 0, .null]) (C := RX1) (T := TX1) (N := 4) hx hb hq i_X1 tyX1 tyX1_ok hown (hq _ w_99) (hq _ w_101) (hq _ w_9) hK hP hS 17 hz rfl rfl (fun j hj => by rcases (show j = 0 ∨ j = 1 ∨ j = 2 ∨ j = 3 by omega) with rfl | rfl | rfl | rfl <;> rfl) (Nat.le_of_ble_eq_true rfl) (Nat.le_of_ble_eq_true rfl) dX10_init_95 (fun H hP hz hS => ?_)
  have hP : va_P D vwCl (gb_wl b [.inr (8, [.ref (b + 1), .ref (b + 6), .ref (b + 11), .null, .null, .null, .int 0, .int 0, .int 0]), .inl (cT 4, 2, .inr (.inr (.inr (.inr (va_up (va_up (fun _ => none) 0 (some (b + 2))) 1 (some (b + 4))))))), .inr (0, [.ref (b + 3)]), .inl (cT 0, 58, .inl (upd (fun _ => 0) 2 (-1))), .inr (0, [.ref (b + 5)]), .inl (cT 0, 58, .inl (upd (fun _ => 0) 2 (-1))), .inl (cT 5, 2, .inr (.inr (.inr (.inr (va_up (va_up (fun _ => none) 0 (some (b + 7))) 1 (some (b + 9))))))), .inr (4, [.int 24, .int 3, .int 3, .ref (b + 8)]), .inl (cT 0, 97, .inl (fun _ => 0)), .inr (4, [.int 24, .int 3, .int 3, .ref (b + 10)]), .inl (cT 0, 97, .inl (fun _ => 0)), .inl (cT 6, 2, .inr (.inr (.inr (.inr (va_up (va_up (fun _ => none) 0 (some (b + 12))) 1 (some (b + 14))))))), .inr (3, [.int 8, .int 2, .int 12, .ref (b + 13)]), .inl (cT 0, 25, .inl (fun _ => 0)), .inr (3, [.int 8, .int 2, .int 12, .ref (b + 15)]), .inl (cT 0, 25, .inl (fun _ => 0)), .inl (cT 7, 2, .inr (.inr (.inr (.inr (fun _ => none))))), .inr (1, [.int 0, .int 0, .int 0, .null])]) H := hP
  refine W.widen (k := 17) (n := 390) (Nat.le_of_ble_eq_true rfl) (Nat.le_of_ble_eq_true rfl) ?_
  refine lv_dup hx hb dX10_init_98 rfl ?_
  have hPc := gb_drop hP 17 (suf := [.inr (1, [.int 0, .int 0, .int 0, .null])]) rfl rfl
  refine gb_callv (va_runI (As := []) (rest := [.ref (b + 17), .int 0, .ref (b + 16), .ref (b + 16), .ref (b + 0)]) ⟨hx, hb, hml, hown, hq⟩ (k_X1_init l D cT tt b1 (b + 17) (Nat.le_trans hb1 (Nat.le_add_right b 17))) (cwI 0 hq (gb_gI w_104) rfl rfl rfl (hq _ w_9) (hq _ w_102) (hq _ w_103) rfl (by decide +kernel) ⟨Nat.le_of_ble_eq_true rfl, Nat.le_of_ble_eq_true rfl⟩) (gb_preS hSt hS (fun q h => Nat.le_trans hb1 h) (show va_P D vwCl (gb_wl (b + 17) [.inr (1, [.int 0, .int 0, .int 0, .null])]) H ∧ Array.size H = b + 17 + 1 from ⟨hPc, hz⟩)) rfl rfl hl.1 rfl (lv_room (Nat.le_of_ble_eq_true rfl)) dX10_init_99 ⟨Nat.le_of_ble_eq_true rfl, Nat.le_of_ble_eq_true rfl⟩) hS (fun q h => Nat.le_trans (Nat.le_add_right b 17) h) (fun q h => Nat.le_trans (Nat.le_add_right b 17) h) (fun H locs hY hk hS => ?_)
  have hP := gb_glue hP 17 (pre := [.inr (8, [.ref (b + 1), .ref (b + 6), .ref (b + 11), .null, .null, .null, .int 0, .int 0, .int 0]), .inl (cT 4, 2, .inr (.inr (.inr (.inr (va_up (va_up (fun _ => none) 0 (some (b + 2))) 1 (some (b + 4))))))), .inr (0, [.ref (b + 3)]), .inl (cT 0, 58, .inl (upd (fun _ => 0) 2 (-1))), .inr (0, [.ref (b + 5)]), .inl (cT 0, 58, .inl (upd (fun _ => 0) 2 (-1))), .inl (cT 5, 2, .inr (.inr (.inr (.inr (va_up (va_up (fun _ => none) 0 (some (b + 7))) 1 (some (b + 9))))))), .inr (4, [.int 24, .int 3, .int 3, .ref (b + 8)]), .inl (cT 0, 97, .inl (fun _ => 0)), .inr (4, [.int 24, .int 3, .int 3, .ref (b + 10)]), .inl (cT 0, 97, .inl (fun _ => 0)), .inl (cT 6, 2, .inr (.inr (.inr (.inr (va_up (va_up (fun _ => none) 0 (some (b + 12))) 1 (some (b + 14))))))), .inr (3, [.int 8, .int 2, .int 12, .ref (b + 13)]), .inl (cT 0, 25, .inl (fun _ => 0)), .inr (3, [.int 8, .int 2, .int 12, .ref (b + 15)]), .inl (cT 0, 25, .inl (fun _ => 0)), .inl (cT 7, 2, .inr (.inr (.inr (.inr (fun _ => none)))))]) rfl rfl hk hY.1
  have hP : va_P D vwCl (gb_wl b [.inr (8, [.ref (b + 1), .ref (b + 6), .ref (b + 11), .null, .null, .null, .int 0, .int 0, .int 0]), .inl (cT 4, 2, .inr (.inr (.inr (.inr (va_up (va_up (fun _ => none) 0 (some (b + 2))) 1 (some (b + 4))))))), .inr (0, [.ref (b + 3)]), .inl (cT 0, 58, .inl (upd (fun _ => 0) 2 (-1))), .inr (0, [.ref (b + 5)]), .inl (cT 0, 58, .inl (upd (fun _ => 0) 2 (-1))), .inl (cT 5, 2, .inr (.inr (.inr (.inr (va_up (va_up (fun _ => none) 0 (some (b + 7))) 1 (some (b + 9))))))), .inr (4, [.int 24, .int 3, .int 3, .ref (b + 8)]), .inl (cT 0, 97, .inl (fun _ => 0)), .inr (4, [.int 24, .int 3, .int 3, .ref (b + 10)]), .inl (cT 0, 97, .inl (fun _ => 0)), .inl (cT 6, 2, .inr (.inr (.inr (.inr (va_up (va_up (fun _ => none) 0 (some (b + 12))) 1 (some (b + 14))))))), .inr (3, [.int 8, .int 2, .int 12, .ref (b + 13)]), .inl (cT 0, 25, .inl (fun _ => 0)), .inr (3, [.int 8, .int 2, .int 12, .ref (b + 15)]), .inl (cT 0, 25, .inl (fun _ => 0)), .inl (cT 7, 2, .inr (.inr (.inr (.inr (fun _ => none))))), .inr (1, [.int 5, .int 2, .int 17, .ref (b + 18)]), .inl (cT 0, 16, .inl (fun _ => 0))]) H := hP
  have hz : Array.size H = b + 19 := hY.2
  refine W.widen (k := 18) (n := 406) (Nat.le_of_ble_eq_true rfl) (Nat.le_of_ble_eq_true rfl) ?_
  refine gb_astq (E := "GooseBorder$Dawn") hx hb hK hP (fun k _ => Nat.le_add_right b k) hS hz 16 7 17 1 rfl rfl (Or.inl rfl) rfl rfl (gb_in rfl) dX10_init_102 (fun H locs hP hz hS => ?_)
  have hP : va_P D vwCl (gb_wl b [.inr (8, [.ref (b + 1), .ref (b + 6), .ref (b + 11), .null, .null, .null, .int 0, .int 0, .int 0]), .inl (cT 4, 2, .inr (.inr (.inr (.inr (va_up (va_up (fun _ => none) 0 (some (b + 2))) 1 (some (b + 4))))))), .inr (0, [.ref (b + 3)]), .inl (cT 0, 58, .inl (upd (fun _ => 0) 2 (-1))), .inr (0, [.ref (b + 5)]), .inl (cT 0, 58, .inl (upd (fun _ => 0) 2 (-1))), .inl (cT 5, 2, .inr (.inr (.inr (.inr (va_up (va_up (fun _ => none) 0 (some (b + 7))) 1 (some (b + 9))))))), .inr (4, [.int 24, .int 3, .int 3, .ref (b + 8)]), .inl (cT 0, 97, .inl (fun _ => 0)), .inr (4, [.int 24, .int 3, .int 3, .ref (b + 10)]), .inl (cT 0, 97, .inl (fun _ => 0)), .inl (cT 6, 2, .inr (.inr (.inr (.inr (va_up (va_up (fun _ => none) 0 (some (b + 12))) 1 (some (b + 14))))))), .inr (3, [.int 8, .int 2, .int 12, .ref (b + 13)]), .inl (cT 0, 25, .inl (fun _ => 0)), .inr (3, [.int 8, .int 2, .int 12, .ref (b + 15)]), .inl (cT 0, 25, .inl (fun _ => 0)), .inl (cT 7, 2, .inr (.inr (.inr (.inr (va_up (fun _ => none) 0 (some (b + 17))))))), .inr (1, [.int 5, .int 2, .int 17, .ref (b + 18)]), .inl (cT 0, 16, .inl (fun _ => 0))]) H := hP
  refine lv_dup hx hb dX10_init_103 rfl ?_
  refine lv_iconst (v := 1) hx hb dX10_init_104 (by decide) ?_
  refine gb_new (ci := 1) (fs := [.int 0, .int 0, .int 0, .null]) (C := RX1) (T := TX1) (N := 4) hx hb hq i_X1 tyX1 tyX1_ok hown (hq _ w_99) (hq _ w_101) (hq _ w_9) hK hP hS 19 hz rfl rfl (fun j hj => by rcases (show j = 0 ∨ j = 1 ∨ j = 2 ∨ j = 3 by omega) with rfl | rfl | rfl | rfl <;> rfl) (Nat.le_of_ble_eq_true rfl) (Nat.le_of_ble_eq_true rfl) dX10_init_105 (fun H hP hz hS => ?_)
  have hP : va_P D vwCl (gb_wl b [.inr (8, [.ref (b + 1), .ref (b + 6), .ref (b + 11), .null, .null, .null, .int 0, .int 0, .int 0]), .inl (cT 4, 2, .inr (.inr (.inr (.inr (va_up (va_up (fun _ => none) 0 (some (b + 2))) 1 (some (b + 4))))))), .inr (0, [.ref (b + 3)]), .inl (cT 0, 58, .inl (upd (fun _ => 0) 2 (-1))), .inr (0, [.ref (b + 5)]), .inl (cT 0, 58, .inl (upd (fun _ => 0) 2 (-1))), .inl (cT 5, 2, .inr (.inr (.inr (.inr (va_up (va_up (fun _ => none) 0 (some (b + 7))) 1 (some (b + 9))))))), .inr (4, [.int 24, .int 3, .int 3, .ref (b + 8)]), .inl (cT 0, 97, .inl (fun _ => 0)), .inr (4, [.int 24, .int 3, .int 3, .ref (b + 10)]), .inl (cT 0, 97, .inl (fun _ => 0)), .inl (cT 6, 2, .inr (.inr (.inr (.inr (va_up (va_up (fun _ => none) 0 (some (b + 12))) 1 (some (b + 14))))))), .inr (3, [.int 8, .int 2, .int 12, .ref (b + 13)]), .inl (cT 0, 25, .inl (fun _ => 0)), .inr (3, [.int 8, .int 2, .int 12, .ref (b + 15)]), .inl (cT 0, 25, .inl (fun _ => 0)), .inl (cT 7, 2, .inr (.inr (.inr (.inr (va_up (fun _ => none) 0 (some (b + 17))))))), .inr (1, [.int 5, .int 2, .int 17, .ref (b + 18)]), .inl (cT 0, 16, .inl (fun _ => 0)), .inr (1, [.int 0, .int 0, .int 0, .null])]) H := hP
  refine W.widen (k := 19) (n := 410) (Nat.le_of_ble_eq_true rfl) (Nat.le_of_ble_eq_true rfl) ?_
  refine lv_dup hx hb dX10_init_108 rfl ?_
  have hPc := gb_drop hP 19 (suf := [.inr (1, [.int 0, .int 0, .int 0, .null])]) rfl rfl
  refine gb_callv (va_runI (As := []) (rest := [.ref (b + 19), .int 1, .ref (b + 16), .ref (b + 16), .ref (b + 0)]) ⟨hx, hb, hml, hown, hq⟩ (k_X1_init l D cT tt b1 (b + 19) (Nat.le_trans hb1 (Nat.le_add_right b 19))) (cwI 0 hq (gb_gI w_104) rfl rfl rfl (hq _ w_9) (hq _ w_102) (hq _ w_103) rfl (by decide +kernel) ⟨Nat.le_of_ble_eq_true rfl, Nat.le_of_ble_eq_true rfl⟩) (gb_preS hSt hS (fun q h => Nat.le_trans hb1 h) (show va_P D vwCl (gb_wl (b + 19) [.inr (1, [.int 0, .int 0, .int 0, .null])]) H ∧ Array.size H = b + 19 + 1 from ⟨hPc, hz⟩)) rfl rfl hl.1 rfl (lv_room (Nat.le_of_ble_eq_true rfl)) dX10_init_109 ⟨Nat.le_of_ble_eq_true rfl, Nat.le_of_ble_eq_true rfl⟩) hS (fun q h => Nat.le_trans (Nat.le_add_right b 19) h) (fun q h => Nat.le_trans (Nat.le_add_right b 19) h) (fun H locs hY hk hS => ?_)
  have hP := gb_glue hP 19 (pre := [.inr (8, [.ref (b + 1), .ref (b + 6), .ref (b + 11), .null, .null, .null, .int 0, .int 0, .int 0]), .inl (cT 4, 2, .inr (.inr (.inr (.inr (va_up (va_up (fun _ => none) 0 (some (b + 2))) 1 (some (b + 4))))))), .inr (0, [.ref (b + 3)]), .inl (cT 0, 58, .inl (upd (fun _ => 0) 2 (-1))), .inr (0, [.ref (b + 5)]), .inl (cT 0, 58, .inl (upd (fun _ => 0) 2 (-1))), .inl (cT 5, 2, .inr (.inr (.inr (.inr (va_up (va_up (fun _ => none) 0 (some (b + 7))) 1 (some (b + 9))))))), .inr (4, [.int 24, .int 3, .int 3, .ref (b + 8)]), .inl (cT 0, 97, .inl (fun _ => 0)), .inr (4, [.int 24, .int 3, .int 3, .ref (b + 10)]), .inl (cT 0, 97, .inl (fun _ => 0)), .inl (cT 6, 2, .inr (.inr (.inr (.inr (va_up (va_up (fun _ => none) 0 (some (b + 12))) 1 (some (b + 14))))))), .inr (3, [.int 8, .int 2, .int 12, .ref (b + 13)]), .inl (cT 0, 25, .inl (fun _ => 0)), .inr (3, [.int 8, .int 2, .int 12, .ref (b + 15)]), .inl (cT 0, 25, .inl (fun _ => 0)), .inl (cT 7, 2, .inr (.inr (.inr (.inr (va_up (fun _ => none) 0 (some (b + 17))))))), .inr (1, [.int 5, .int 2, .int 17, .ref (b + 18)]), .inl (cT 0, 16, .inl (fun _ => 0))]) rfl rfl hk hY.1
  have hP : va_P D vwCl (gb_wl b [.inr (8, [.ref (b + 1), .ref (b + 6), .ref (b + 11), .null, .null, .null, .int 0, .int 0, .int 0]), .inl (cT 4, 2, .inr (.inr (.inr (.inr (va_up (va_up (fun _ => none) 0 (some (b + 2))) 1 (some (b + 4))))))), .inr (0, [.ref (b + 3)]), .inl (cT 0, 58, .inl (upd (fun _ => 0) 2 (-1))), .inr (0, [.ref (b + 5)]), .inl (cT 0, 58, .inl (upd (fun _ => 0) 2 (-1))), .inl (cT 5, 2, .inr (.inr (.inr (.inr (va_up (va_up (fun _ => none) 0 (some (b + 7))) 1 (some (b + 9))))))), .inr (4, [.int 24, .int 3, .int 3, .ref (b + 8)]), .inl (cT 0, 97, .inl (fun _ => 0)), .inr (4, [.int 24, .int 3, .int 3, .ref (b + 10)]), .inl (cT 0, 97, .inl (fun _ => 0)), .inl (cT 6, 2, .inr (.inr (.inr (.inr (va_up (va_up (fun _ => none) 0 (some (b + 12))) 1 (some (b + 14))))))), .inr (3, [.int 8, .int 2, .int 12, .ref (b + 13)]), .inl (cT 0, 25, .inl (fun _ => 0)), .inr (3, [.int 8, .int 2, .int 12, .ref (b + 15)]), .inl (cT 0, 25, .inl (fun _ => 0)), .inl (cT 7, 2, .inr (.inr (.inr (.inr (va_up (fun _ => none) 0 (some (b + 17))))))), .inr (1, [.int 5, .int 2, .int 17, .ref (b + 18)]), .inl (cT 0, 16, .inl (fun _ => 0)), .inr (1, [.int 5, .int 2, .int 17, .ref (b + 20)]), .inl (cT 0, 16, .inl (fun _ => 0))]) H := hP
  have hz : Array.size H = b + 21 := hY.2
  refine W.widen (k := 20) (n := 426) (Nat.le_of_ble_eq_true rfl) (Nat.le_of_ble_eq_true rfl) ?_
  refine gb_astq (E := "GooseBorder$Dawn") hx hb hK hP (fun k _ => Nat.le_add_right b k) hS hz 16 7 19 1 rfl rfl (Or.inl rfl) rfl rfl (gb_in rfl) dX10_init_112 (fun H locs hP hz hS => ?_)
  have hP : va_P D vwCl (gb_wl b [.inr (8, [.ref (b + 1), .ref (b + 6), .ref (b + 11), .null, .null, .null, .int 0, .int 0, .int 0]), .inl (cT 4, 2, .inr (.inr (.inr (.inr (va_up (va_up (fun _ => none) 0 (some (b + 2))) 1 (some (b + 4))))))), .inr (0, [.ref (b + 3)]), .inl (cT 0, 58, .inl (upd (fun _ => 0) 2 (-1))), .inr (0, [.ref (b + 5)]), .inl (cT 0, 58, .inl (upd (fun _ => 0) 2 (-1))), .inl (cT 5, 2, .inr (.inr (.inr (.inr (va_up (va_up (fun _ => none) 0 (some (b + 7))) 1 (some (b + 9))))))), .inr (4, [.int 24, .int 3, .int 3, .ref (b + 8)]), .inl (cT 0, 97, .inl (fun _ => 0)), .inr (4, [.int 24, .int 3, .int 3, .ref (b + 10)]), .inl (cT 0, 97, .inl (fun _ => 0)), .inl (cT 6, 2, .inr (.inr (.inr (.inr (va_up (va_up (fun _ => none) 0 (some (b + 12))) 1 (some (b + 14))))))), .inr (3, [.int 8, .int 2, .int 12, .ref (b + 13)]), .inl (cT 0, 25, .inl (fun _ => 0)), .inr (3, [.int 8, .int 2, .int 12, .ref (b + 15)]), .inl (cT 0, 25, .inl (fun _ => 0)), .inl (cT 7, 2, .inr (.inr (.inr (.inr (va_up (va_up (fun _ => none) 0 (some (b + 17))) 1 (some (b + 19))))))), .inr (1, [.int 5, .int 2, .int 17, .ref (b + 18)]), .inl (cT 0, 16, .inl (fun _ => 0)), .inr (1, [.int 5, .int 2, .int 17, .ref (b + 20)]), .inl (cT 0, 16, .inl (fun _ => 0))]) H := hP
  refine gb_putF (ci := 8) (v := (.ref (b + 16))) (ty := .array (.object "GooseBorder$Dawn")) (C := RX10) (T := TX10) (N := 9) hx hb hq i_X10 tyX10 tyX10_ok nmX10 hown hK hP (fun k _ => Nat.le_add_right b k) hS hz 0 rfl rfl 3 (by decide) (hq _ w_118) (fun _ h9 => h9) rfl hin rfl (by decide +kernel) rfl rfl (Nat.le_of_ble_eq_true rfl) dX10_init_113 (fun H locs hP hz hS => ?_)
  have hP : va_P D vwCl (gb_wl b [.inr (8, [.ref (b + 1), .ref (b + 6), .ref (b + 11), .ref (b + 16), .null, .null, .int 0, .int 0, .int 0]), .inl (cT 4, 2, .inr (.inr (.inr (.inr (va_up (va_up (fun _ => none) 0 (some (b + 2))) 1 (some (b + 4))))))), .inr (0, [.ref (b + 3)]), .inl (cT 0, 58, .inl (upd (fun _ => 0) 2 (-1))), .inr (0, [.ref (b + 5)]), .inl (cT 0, 58, .inl (upd (fun _ => 0) 2 (-1))), .inl (cT 5, 2, .inr (.inr (.inr (.inr (va_up (va_up (fun _ => none) 0 (some (b + 7))) 1 (some (b + 9))))))), .inr (4, [.int 24, .int 3, .int 3, .ref (b + 8)]), .inl (cT 0, 97, .inl (fun _ => 0)), .inr (4, [.int 24, .int 3, .int 3, .ref (b + 10)]), .inl (cT 0, 97, .inl (fun _ => 0)), .inl (cT 6, 2, .inr (.inr (.inr (.inr (va_up (va_up (fun _ => none) 0 (some (b + 12))) 1 (some (b + 14))))))), .inr (3, [.int 8, .int 2, .int 12, .ref (b + 13)]), .inl (cT 0, 25, .inl (fun _ => 0)), .inr (3, [.int 8, .int 2, .int 12, .ref (b + 15)]), .inl (cT 0, 25, .inl (fun _ => 0)), .inl (cT 7, 2, .inr (.inr (.inr (.inr (va_up (va_up (fun _ => none) 0 (some (b + 17))) 1 (some (b + 19))))))), .inr (1, [.int 5, .int 2, .int 17, .ref (b + 18)]), .inl (cT 0, 16, .inl (fun _ => 0)), .inr (1, [.int 5, .int 2, .int 17, .ref (b + 20)]), .inl (cT 0, 16, .inl (fun _ => 0))]) H := hP
  refine lv_aload_n hx hb dX10_init_116 rfl (lv_at hl 0 rfl) ?_
  refine lv_iconst (v := 4) hx hb dX10_init_117 (by decide) ?_
  refine gb_newa (atype := .int) (a0 := (4, .inl (fun _ => 0))) hx hb (hq _ w_59) (ty := .int) rfl hK hP hS 21 hz rfl 0 rfl (fun h => h) (fun _ => rfl) (by decide) (by decide) (Nat.le_of_ble_eq_true rfl) (Nat.le_of_ble_eq_true rfl) (Nat.le_of_ble_eq_true rfl) dX10_init_118 (fun H hP hz hS => ?_)
  have hP : va_P D vwCl (gb_wl b [.inr (8, [.ref (b + 1), .ref (b + 6), .ref (b + 11), .ref (b + 16), .null, .null, .int 0, .int 0, .int 0]), .inl (cT 4, 2, .inr (.inr (.inr (.inr (va_up (va_up (fun _ => none) 0 (some (b + 2))) 1 (some (b + 4))))))), .inr (0, [.ref (b + 3)]), .inl (cT 0, 58, .inl (upd (fun _ => 0) 2 (-1))), .inr (0, [.ref (b + 5)]), .inl (cT 0, 58, .inl (upd (fun _ => 0) 2 (-1))), .inl (cT 5, 2, .inr (.inr (.inr (.inr (va_up (va_up (fun _ => none) 0 (some (b + 7))) 1 (some (b + 9))))))), .inr (4, [.int 24, .int 3, .int 3, .ref (b + 8)]), .inl (cT 0, 97, .inl (fun _ => 0)), .inr (4, [.int 24, .int 3, .int 3, .ref (b + 10)]), .inl (cT 0, 97, .inl (fun _ => 0)), .inl (cT 6, 2, .inr (.inr (.inr (.inr (va_up (va_up (fun _ => none) 0 (some (b + 12))) 1 (some (b + 14))))))), .inr (3, [.int 8, .int 2, .int 12, .ref (b + 13)]), .inl (cT 0, 25, .inl (fun _ => 0)), .inr (3, [.int 8, .int 2, .int 12, .ref (b + 15)]), .inl (cT 0, 25, .inl (fun _ => 0)), .inl (cT 7, 2, .inr (.inr (.inr (.inr (va_up (va_up (fun _ => none) 0 (some (b + 17))) 1 (some (b + 19))))))), .inr (1, [.int 5, .int 2, .int 17, .ref (b + 18)]), .inl (cT 0, 16, .inl (fun _ => 0)), .inr (1, [.int 5, .int 2, .int 17, .ref (b + 20)]), .inl (cT 0, 16, .inl (fun _ => 0)), .inl (cT 0, 4, .inl (fun _ => 0))]) H := hP
  refine W.widen (k := 21) (n := 430) (Nat.le_of_ble_eq_true rfl) (Nat.le_of_ble_eq_true rfl) ?_
  refine gb_putF (ci := 8) (v := (.ref (b + 21))) (ty := .array .int) (C := RX10) (T := TX10) (N := 9) hx hb hq i_X10 tyX10 tyX10_ok nmX10 hown hK hP (fun k _ => Nat.le_add_right b k) hS hz 0 rfl rfl 4 (by decide) (hq _ w_120) (fun _ h9 => h9) rfl hin rfl (by decide +kernel) rfl rfl (Nat.le_of_ble_eq_true rfl) dX10_init_120 (fun H locs hP hz hS => ?_)
  have hP : va_P D vwCl (gb_wl b [.inr (8, [.ref (b + 1), .ref (b + 6), .ref (b + 11), .ref (b + 16), .ref (b + 21), .null, .int 0, .int 0, .int 0]), .inl (cT 4, 2, .inr (.inr (.inr (.inr (va_up (va_up (fun _ => none) 0 (some (b + 2))) 1 (some (b + 4))))))), .inr (0, [.ref (b + 3)]), .inl (cT 0, 58, .inl (upd (fun _ => 0) 2 (-1))), .inr (0, [.ref (b + 5)]), .inl (cT 0, 58, .inl (upd (fun _ => 0) 2 (-1))), .inl (cT 5, 2, .inr (.inr (.inr (.inr (va_up (va_up (fun _ => none) 0 (some (b + 7))) 1 (some (b + 9))))))), .inr (4, [.int 24, .int 3, .int 3, .ref (b + 8)]), .inl (cT 0, 97, .inl (fun _ => 0)), .inr (4, [.int 24, .int 3, .int 3, .ref (b + 10)]), .inl (cT 0, 97, .inl (fun _ => 0)), .inl (cT 6, 2, .inr (.inr (.inr (.inr (va_up (va_up (fun _ => none) 0 (some (b + 12))) 1 (some (b + 14))))))), .inr (3, [.int 8, .int 2, .int 12, .ref (b + 13)]), .inl (cT 0, 25, .inl (fun _ => 0)), .inr (3, [.int 8, .int 2, .int 12, .ref (b + 15)]), .inl (cT 0, 25, .inl (fun _ => 0)), .inl (cT 7, 2, .inr (.inr (.inr (.inr (va_up (va_up (fun _ => none) 0 (some (b + 17))) 1 (some (b + 19))))))), .inr (1, [.int 5, .int 2, .int 17, .ref (b + 18)]), .inl (cT 0, 16, .inl (fun _ => 0)), .inr (1, [.int 5, .int 2, .int 17, .ref (b + 20)]), .inl (cT 0, 16, .inl (fun _ => 0)), .inl (cT 0, 4, .inl (fun _ => 0))]) H := hP
  refine lv_aload_n hx hb dX10_init_123 rfl (lv_at hl 0 rfl) ?_
  refine lv_sipush (v := 600) hx hb dX10_init_124 (by decide) ?_
  refine gb_newa (atype := .byte) (a0 := (600, .inl (fun _ => 0))) hx hb (hq _ w_149) (ty := .byte) rfl hK hP hS 22 hz rfl 1 rfl (fun h => h) (fun _ => rfl) (by decide) (by decide) (Nat.le_of_ble_eq_true rfl) (Nat.le_of_ble_eq_true rfl) (Nat.le_of_ble_eq_true rfl) dX10_init_127 (fun H hP hz hS => ?_)
  have hP : va_P D vwCl (gb_wl b [.inr (8, [.ref (b + 1), .ref (b + 6), .ref (b + 11), .ref (b + 16), .ref (b + 21), .null, .int 0, .int 0, .int 0]), .inl (cT 4, 2, .inr (.inr (.inr (.inr (va_up (va_up (fun _ => none) 0 (some (b + 2))) 1 (some (b + 4))))))), .inr (0, [.ref (b + 3)]), .inl (cT 0, 58, .inl (upd (fun _ => 0) 2 (-1))), .inr (0, [.ref (b + 5)]), .inl (cT 0, 58, .inl (upd (fun _ => 0) 2 (-1))), .inl (cT 5, 2, .inr (.inr (.inr (.inr (va_up (va_up (fun _ => none) 0 (some (b + 7))) 1 (some (b + 9))))))), .inr (4, [.int 24, .int 3, .int 3, .ref (b + 8)]), .inl (cT 0, 97, .inl (fun _ => 0)), .inr (4, [.int 24, .int 3, .int 3, .ref (b + 10)]), .inl (cT 0, 97, .inl (fun _ => 0)), .inl (cT 6, 2, .inr (.inr (.inr (.inr (va_up (va_up (fun _ => none) 0 (some (b + 12))) 1 (some (b + 14))))))), .inr (3, [.int 8, .int 2, .int 12, .ref (b + 13)]), .inl (cT 0, 25, .inl (fun _ => 0)), .inr (3, [.int 8, .int 2, .int 12, .ref (b + 15)]), .inl (cT 0, 25, .inl (fun _ => 0)), .inl (cT 7, 2, .inr (.inr (.inr (.inr (va_up (va_up (fun _ => none) 0 (some (b + 17))) 1 (some (b + 19))))))), .inr (1, [.int 5, .int 2, .int 17, .ref (b + 18)]), .inl (cT 0, 16, .inl (fun _ => 0)), .inr (1, [.int 5, .int 2, .int 17, .ref (b + 20)]), .inl (cT 0, 16, .inl (fun _ => 0)), .inl (cT 0, 4, .inl (fun _ => 0)), .inl (cT 1, 600, .inl (fun _ => 0))]) H := hP
  refine W.widen (k := 22) (n := 1030) (Nat.le_of_ble_eq_true rfl) (Nat.le_of_ble_eq_true rfl) ?_
  refine gb_putF (ci := 8) (v := (.ref (b + 22))) (ty := .array .byte) (C := RX10) (T := TX10) (N := 9) hx hb hq i_X10 tyX10 tyX10_ok nmX10 hown hK hP (fun k _ => Nat.le_add_right b k) hS hz 0 rfl rfl 5 (by decide) (hq _ w_122) (fun _ h9 => h9) rfl hin rfl (by decide +kernel) rfl rfl (Nat.le_of_ble_eq_true rfl) dX10_init_129 (fun H locs hP hz hS => ?_)
  have hP : va_P D vwCl (gb_wl b [.inr (8, [.ref (b + 1), .ref (b + 6), .ref (b + 11), .ref (b + 16), .ref (b + 21), .ref (b + 22), .int 0, .int 0, .int 0]), .inl (cT 4, 2, .inr (.inr (.inr (.inr (va_up (va_up (fun _ => none) 0 (some (b + 2))) 1 (some (b + 4))))))), .inr (0, [.ref (b + 3)]), .inl (cT 0, 58, .inl (upd (fun _ => 0) 2 (-1))), .inr (0, [.ref (b + 5)]), .inl (cT 0, 58, .inl (upd (fun _ => 0) 2 (-1))), .inl (cT 5, 2, .inr (.inr (.inr (.inr (va_up (va_up (fun _ => none) 0 (some (b + 7))) 1 (some (b + 9))))))), .inr (4, [.int 24, .int 3, .int 3, .ref (b + 8)]), .inl (cT 0, 97, .inl (fun _ => 0)), .inr (4, [.int 24, .int 3, .int 3, .ref (b + 10)]), .inl (cT 0, 97, .inl (fun _ => 0)), .inl (cT 6, 2, .inr (.inr (.inr (.inr (va_up (va_up (fun _ => none) 0 (some (b + 12))) 1 (some (b + 14))))))), .inr (3, [.int 8, .int 2, .int 12, .ref (b + 13)]), .inl (cT 0, 25, .inl (fun _ => 0)), .inr (3, [.int 8, .int 2, .int 12, .ref (b + 15)]), .inl (cT 0, 25, .inl (fun _ => 0)), .inl (cT 7, 2, .inr (.inr (.inr (.inr (va_up (va_up (fun _ => none) 0 (some (b + 17))) 1 (some (b + 19))))))), .inr (1, [.int 5, .int 2, .int 17, .ref (b + 18)]), .inl (cT 0, 16, .inl (fun _ => 0)), .inr (1, [.int 5, .int 2, .int 17, .ref (b + 20)]), .inl (cT 0, 16, .inl (fun _ => 0)), .inl (cT 0, 4, .inl (fun _ => 0)), .inl (cT 1, 600, .inl (fun _ => 0))]) H := hP
  refine lv_aload_n hx hb dX10_init_132 rfl (lv_at hl 0 rfl) ?_
  refine lv_iconst (v := (-1)) hx hb dX10_init_133 (by decide) ?_
  refine gb_put (ci := 8) (v := (.int (-1))) (ty := .int) (C := RX10) (T := TX10) (N := 9) hx hb hq i_X10 tyX10 tyX10_ok nmX10 hown hK hP (fun k _ => Nat.le_add_right b k) hS hz 0 rfl rfl 8 (by decide) (hq _ w_128) (fun _ h9 => h9) rfl (by decide +kernel) rfl (by first | rfl | decide) (Nat.le_of_ble_eq_true rfl) dX10_init_134 (fun H locs hP hz hS => ?_)
  have hP : va_P D vwCl (gb_wl b [.inr (8, [.ref (b + 1), .ref (b + 6), .ref (b + 11), .ref (b + 16), .ref (b + 21), .ref (b + 22), .int 0, .int 0, .int (-1)]), .inl (cT 4, 2, .inr (.inr (.inr (.inr (va_up (va_up (fun _ => none) 0 (some (b + 2))) 1 (some (b + 4))))))), .inr (0, [.ref (b + 3)]), .inl (cT 0, 58, .inl (upd (fun _ => 0) 2 (-1))), .inr (0, [.ref (b + 5)]), .inl (cT 0, 58, .inl (upd (fun _ => 0) 2 (-1))), .inl (cT 5, 2, .inr (.inr (.inr (.inr (va_up (va_up (fun _ => none) 0 (some (b + 7))) 1 (some (b + 9))))))), .inr (4, [.int 24, .int 3, .int 3, .ref (b + 8)]), .inl (cT 0, 97, .inl (fun _ => 0)), .inr (4, [.int 24, .int 3, .int 3, .ref (b + 10)]), .inl (cT 0, 97, .inl (fun _ => 0)), .inl (cT 6, 2, .inr (.inr (.inr (.inr (va_up (va_up (fun _ => none) 0 (some (b + 12))) 1 (some (b + 14))))))), .inr (3, [.int 8, .int 2, .int 12, .ref (b + 13)]), .inl (cT 0, 25, .inl (fun _ => 0)), .inr (3, [.int 8, .int 2, .int 12, .ref (b + 15)]), .inl (cT 0, 25, .inl (fun _ => 0)), .inl (cT 7, 2, .inr (.inr (.inr (.inr (va_up (va_up (fun _ => none) 0 (some (b + 17))) 1 (some (b + 19))))))), .inr (1, [.int 5, .int 2, .int 17, .ref (b + 18)]), .inl (cT 0, 16, .inl (fun _ => 0)), .inr (1, [.int 5, .int 2, .int 17, .ref (b + 20)]), .inl (cT 0, 16, .inl (fun _ => 0)), .inl (cT 0, 4, .inl (fun _ => 0)), .inl (cT 1, 600, .inl (fun _ => 0))]) H := hP
  exact W.vret hx hb hr (fun t ht hW => gb_rv ht ⟨hP, hz⟩ hS) hS.2.2 dX10_init_137
end
section
theorem dX7_init_0 : decode cX7_init 0 = .ok (.aload_n 0, 1) := by decide +kernel
theorem dX7_init_1 : decode cX7_init 1 = .ok (.invokespecial 3, 3) := by decide +kernel
theorem w_166 : (Cond.methodLink "GooseBorder$Reader" (3 : Nat) ({ cls := "java/lang/Object", name := "<init>", desc := "()V" } : MethodName)) ∈ gb_wA := gb_t1 166 rfl rfl
theorem dX7_init_4 : decode cX7_init 4 = .ok (.aload_n 0, 1) := by decide +kernel
theorem dX7_init_5 : decode cX7_init 5 = .ok (.iconst 5, 1) := by decide +kernel
theorem dX7_init_6 : decode cX7_init 6 = .ok (.newarray .int, 2) := by decide +kernel
theorem dX7_init_8 : decode cX7_init 8 = .ok (.putfield 9, 3) := by decide +kernel
theorem w_175 : (Cond.laysFinal "GooseBorder$Reader" "GooseBorder$Reader" "numbers" "[I") ∈ gb_wA := gb_t1 175 rfl rfl
theorem w_177 : (Cond.lays "GooseBorder$Reader" "GooseBorder$Reader" "tape" "[B") ∈ gb_wA := gb_t1 177 rfl rfl
theorem w_179 : (Cond.lays "GooseBorder$Reader" "GooseBorder$Reader" "length" "I") ∈ gb_wA := gb_t1 179 rfl rfl
theorem w_181 : (Cond.lays "GooseBorder$Reader" "GooseBorder$Reader" "at" "I") ∈ gb_wA := gb_t1 181 rfl rfl
theorem w_183 : (Cond.lays "GooseBorder$Reader" "GooseBorder$Reader" "fault" "I") ∈ gb_wA := gb_t1 183 rfl rfl
theorem w_185 : (Cond.lays "GooseBorder$Reader" "GooseBorder$Reader" "place" "I") ∈ gb_wA := gb_t1 185 rfl rfl
theorem i_X7 : ∀ w ∈ u_ws RX7 TX7 6, w ∈ gb_wA := (List.forall_mem_cons.mpr ⟨w_175, List.forall_mem_cons.mpr ⟨w_177, List.forall_mem_cons.mpr ⟨w_179, List.forall_mem_cons.mpr ⟨w_181, List.forall_mem_cons.mpr ⟨w_183, List.forall_mem_cons.mpr ⟨w_185, fun _ h => absurd h List.not_mem_nil⟩⟩⟩⟩⟩⟩ : ∀ w ∈ ([Cond.laysFinal "GooseBorder$Reader" "GooseBorder$Reader" "numbers" "[I", Cond.lays "GooseBorder$Reader" "GooseBorder$Reader" "tape" "[B", Cond.lays "GooseBorder$Reader" "GooseBorder$Reader" "length" "I", Cond.lays "GooseBorder$Reader" "GooseBorder$Reader" "at" "I", Cond.lays "GooseBorder$Reader" "GooseBorder$Reader" "fault" "I", Cond.lays "GooseBorder$Reader" "GooseBorder$Reader" "place" "I"] : List Cond), w ∈ gb_wA)
theorem w_167 : (Cond.fieldLink "GooseBorder$Reader" (9 : Nat) "GooseBorder$Reader" "numbers" "[I") ∈ gb_wA := gb_t1 167 rfl rfl
theorem dX7_init_11 : decode cX7_init 11 = .ok (.aload_n 0, 1) := by decide +kernel
theorem dX7_init_12 : decode cX7_init 12 = .ok (.iconst 0, 1) := by decide +kernel
theorem dX7_init_13 : decode cX7_init 13 = .ok (.newarray .byte, 2) := by decide +kernel
theorem dX7_init_15 : decode cX7_init 15 = .ok (.putfield 15, 3) := by decide +kernel
theorem w_168 : (Cond.fieldLink "GooseBorder$Reader" (15 : Nat) "GooseBorder$Reader" "tape" "[B") ∈ gb_wA := gb_t1 168 rfl rfl
theorem dX7_init_18 : decode cX7_init 18 = .ok (.return_, 1) := by decide +kernel
set_option maxHeartbeats 4000000 in
set_option maxRecDepth 100000 in
theorem k_X7_init (l : Launch) (D : va_G) (cT : Nat → ClassId) (tt : Nat → Nat) (b1 b : Nat) (hb1 : b1 ≤ b) : Met l yX7_init (.code yX7_init cX7_init 1 none :: gb_wA) ({ frames := 1, cells := 2, slots := 5, locals := 12 }) (gb_Pc D cT tt b1 [.ref (b + 0)] (fun h => va_P D vwCl (gb_wl b [.inr (6, [.null, .null, .int 0, .int 0, .int 0, .int 0])]) h ∧ Array.size h = b + 1)) (gb_Qv (fun h => va_P D vwCl (gb_wl b [.inr (6, [.ref (b + 1), .ref (b + 2), .int 0, .int 0, .int 0, .int 0]), .inl (cT 0, 5, .inl (fun _ => 0)), .inl (cT 1, 0, .inl (fun _ => 0))]) h ∧ Array.size h = b + 3) (gb_ge b)) 2 5 (gb_ge b) := by
  refine Met.ofW (cc := cX7_init) (maxL := 1) (ret := none) (by decide) rfl ?_
  intro p e s m args below meth c s₁ B hml hv
  obtain ⟨rfl, hSt, hP, hz⟩ := hv
  have hx := B.exec
  have hb := B.bytes
  have hr := B.returns
  have hts := atoms_spec (ws := .code yX7_init cX7_init 1 none :: gb_wA) B.pre
  have hq : ∀ w ∈ gb_wA, w.before _ s = true := fun w h => hts w (List.mem_cons_of_mem _ h)
  have hown : s.vm.findClass RX7 = some m.cls := findClass_of_methodNamed B.named
  have hlocks := B.notSynchronized
  have hin : meth.name = "<init>" := (name_of_methodNamed B.named B.method).1
  have hK := hSt.1
  have hS : va_S (gb_ge b) s.heap s.heap [] := va_S.rf
  have hl := lv_entry ([.ref (b + 0)]) (n := 1) (Nat.le_of_ble_eq_true rfl)
  rw [lg_entry_eq]
  generalize (lg_sl ([.ref (b + 0)]) ++ List.replicate (1 - (lg_sl ([.ref (b + 0)])).length) Slot.unset).toArray = ls at hl ⊢
  have hl : lv_has ls 1 [(0, .ref (b + 0))] := hl
  refine lv_aload_n hx hb dX7_init_0 rfl (lv_at hl 0 rfl) ?_
  refine W.objInit hx hb hown (hq _ w_166) (hq _ w_28) (hq _ w_29) rfl (by rw [hml]; exact hl.1) rfl dX7_init_1 (Nat.le_of_ble_eq_true rfl) (Nat.le_of_ble_eq_true rfl) ?_
  refine W.eq (g2 := F0 m 4 ls []) rfl ?_
  refine lv_aload_n hx hb dX7_init_4 rfl (lv_at hl 0 rfl) ?_
  refine lv_iconst (v := 5) hx hb dX7_init_5 (by decide) ?_
  refine gb_newa (atype := .int) (a0 := (5, .inl (fun _ => 0))) hx hb (hq _ w_59) (ty := .int) rfl hK hP hS 1 hz rfl 0 rfl (fun h => h) (fun _ => rfl) (by decide) (by decide) (Nat.le_of_ble_eq_true rfl) (Nat.le_of_ble_eq_true rfl) (Nat.le_of_ble_eq_true rfl) dX7_init_6 (fun H hP hz hS => ?_)
  have hP : va_P D vwCl (gb_wl b [.inr (6, [.null, .null, .int 0, .int 0, .int 0, .int 0]), .inl (cT 0, 5, .inl (fun _ => 0))]) H := hP
  refine W.widen (k := 1) (n := 5) (Nat.le_of_ble_eq_true rfl) (Nat.le_of_ble_eq_true rfl) ?_
  refine gb_putF (ci := 6) (v := (.ref (b + 1))) (ty := .array .int) (C := RX7) (T := TX7) (N := 6) hx hb hq i_X7 tyX7 tyX7_ok nmX7 hown hK hP (fun k _ => Nat.le_add_right b k) hS hz 0 rfl rfl 0 (by decide) (hq _ w_167) (fun _ h9 => h9) rfl hin rfl (by decide +kernel) rfl rfl (Nat.le_of_ble_eq_true rfl) dX7_init_8 (fun H locs hP hz hS => ?_)
  have hP : va_P D vwCl (gb_wl b [.inr (6, [.ref (b + 1), .null, .int 0, .int 0, .int 0, .int 0]), .inl (cT 0, 5, .inl (fun _ => 0))]) H := hP
  refine lv_aload_n hx hb dX7_init_11 rfl (lv_at hl 0 rfl) ?_
  refine lv_iconst (v := 0) hx hb dX7_init_12 (by decide) ?_
  refine gb_newa (atype := .byte) (a0 := (0, .inl (fun _ => 0))) hx hb (hq _ w_149) (ty := .byte) rfl hK hP hS 2 hz rfl 1 rfl (fun h => h) (fun _ => rfl) (by decide) (by decide) (Nat.le_of_ble_eq_true rfl) (Nat.le_of_ble_eq_true rfl) (Nat.le_of_ble_eq_true rfl) dX7_init_13 (fun H hP hz hS => ?_)
  have hP : va_P D vwCl (gb_wl b [.inr (6, [.ref (b + 1), .null, .int 0, .int 0, .int 0, .int 0]), .inl (cT 0, 5, .inl (fun _ => 0)), .inl (cT 1, 0, .inl (fun _ => 0))]) H := hP
  refine W.widen (k := 2) (n := 5) (Nat.le_of_ble_eq_true rfl) (Nat.le_of_ble_eq_true rfl) ?_
  refine gb_put (ci := 6) (v := (.ref (b + 2))) (ty := .array .byte) (C := RX7) (T := TX7) (N := 6) hx hb hq i_X7 tyX7 tyX7_ok nmX7 hown hK hP (fun k _ => Nat.le_add_right b k) hS hz 0 rfl rfl 1 (by decide) (hq _ w_168) (fun _ h9 => h9) rfl (by decide +kernel) rfl (by first | rfl | decide) (Nat.le_of_ble_eq_true rfl) dX7_init_15 (fun H locs hP hz hS => ?_)
  have hP : va_P D vwCl (gb_wl b [.inr (6, [.ref (b + 1), .ref (b + 2), .int 0, .int 0, .int 0, .int 0]), .inl (cT 0, 5, .inl (fun _ => 0)), .inl (cT 1, 0, .inl (fun _ => 0))]) H := hP
  exact W.vret hx hb hr (fun t ht hW => gb_rv ht ⟨hP, hz⟩ hS) hS.2.2 dX7_init_18
theorem dX6_init_0 : decode cX6_init 0 = .ok (.aload_n 0, 1) := by decide +kernel
theorem dX6_init_1 : decode cX6_init 1 = .ok (.invokespecial 3, 3) := by decide +kernel
theorem w_194 : (Cond.methodLink "GooseBorder$Play" (3 : Nat) ({ cls := "java/lang/Object", name := "<init>", desc := "()V" } : MethodName)) ∈ gb_wA := gb_t1 194 rfl rfl
theorem dX6_init_4 : decode cX6_init 4 = .ok (.aload_n 0, 1) := by decide +kernel
theorem dX6_init_5 : decode cX6_init 5 = .ok (.new 9, 3) := by decide +kernel
theorem w_195 : (Cond.classLink "GooseBorder$Play" (9 : Nat) "GooseBorder$Border") ∈ gb_wA := gb_t1 195 rfl rfl
theorem dX6_init_8 : decode cX6_init 8 = .ok (.dup, 1) := by decide +kernel
theorem dX6_init_9 : decode cX6_init 9 = .ok (.invokespecial 11, 3) := by decide +kernel
theorem w_196 : (Cond.methodLink "GooseBorder$Play" (11 : Nat) ({ cls := "GooseBorder$Border", name := "<init>", desc := "()V" } : MethodName)) ∈ gb_wA := gb_t1 196 rfl rfl
theorem dX6_init_12 : decode cX6_init 12 = .ok (.putfield 12, 3) := by decide +kernel
theorem w_218 : (Cond.lays "GooseBorder$Play" "GooseBorder$Play" "border" "LGooseBorder$Border;") ∈ gb_wA := gb_t1 218 rfl rfl
theorem w_220 : (Cond.laysFinal "GooseBorder$Play" "GooseBorder$Play" "where" "[I") ∈ gb_wA := gb_t1 220 rfl rfl
theorem w_222 : (Cond.laysFinal "GooseBorder$Play" "GooseBorder$Play" "boots" "[I") ∈ gb_wA := gb_t1 222 rfl rfl
theorem w_224 : (Cond.laysFinal "GooseBorder$Play" "GooseBorder$Play" "trail" "[I") ∈ gb_wA := gb_t1 224 rfl rfl
theorem w_226 : (Cond.laysFinal "GooseBorder$Play" "GooseBorder$Play" "latest" "[I") ∈ gb_wA := gb_t1 226 rfl rfl
theorem w_228 : (Cond.laysFinal "GooseBorder$Play" "GooseBorder$Play" "marks" "[I") ∈ gb_wA := gb_t1 228 rfl rfl
theorem w_230 : (Cond.laysFinal "GooseBorder$Play" "GooseBorder$Play" "exports" "[I") ∈ gb_wA := gb_t1 230 rfl rfl
theorem w_232 : (Cond.laysFinal "GooseBorder$Play" "GooseBorder$Play" "washed" "[I") ∈ gb_wA := gb_t1 232 rfl rfl
theorem w_234 : (Cond.laysFinal "GooseBorder$Play" "GooseBorder$Play" "gone" "[I") ∈ gb_wA := gb_t1 234 rfl rfl
theorem w_236 : (Cond.lays "GooseBorder$Play" "GooseBorder$Play" "recast" "I") ∈ gb_wA := gb_t1 236 rfl rfl
theorem w_238 : (Cond.lays "GooseBorder$Play" "GooseBorder$Play" "frost" "Z") ∈ gb_wA := gb_t1 238 rfl rfl
theorem w_240 : (Cond.lays "GooseBorder$Play" "GooseBorder$Play" "done" "I") ∈ gb_wA := gb_t2 0 rfl rfl
theorem i_X6 : ∀ w ∈ u_ws RX6 TX6 12, w ∈ gb_wA := (List.forall_mem_cons.mpr ⟨w_218, List.forall_mem_cons.mpr ⟨w_220, List.forall_mem_cons.mpr ⟨w_222, List.forall_mem_cons.mpr ⟨w_224, List.forall_mem_cons.mpr ⟨w_226, List.forall_mem_cons.mpr ⟨w_228, List.forall_mem_cons.mpr ⟨w_230, List.forall_mem_cons.mpr ⟨w_232, List.forall_mem_cons.mpr ⟨w_234, List.forall_mem_cons.mpr ⟨w_236, List.forall_mem_cons.mpr ⟨w_238, List.forall_mem_cons.mpr ⟨w_240, fun _ h => absurd h List.not_mem_nil⟩⟩⟩⟩⟩⟩⟩⟩⟩⟩⟩⟩ : ∀ w ∈ ([Cond.lays "GooseBorder$Play" "GooseBorder$Play" "border" "LGooseBorder$Border;", Cond.laysFinal "GooseBorder$Play" "GooseBorder$Play" "where" "[I", Cond.laysFinal "GooseBorder$Play" "GooseBorder$Play" "boots" "[I", Cond.laysFinal "GooseBorder$Play" "GooseBorder$Play" "trail" "[I", Cond.laysFinal "GooseBorder$Play" "GooseBorder$Play" "latest" "[I", Cond.laysFinal "GooseBorder$Play" "GooseBorder$Play" "marks" "[I", Cond.laysFinal "GooseBorder$Play" "GooseBorder$Play" "exports" "[I", Cond.laysFinal "GooseBorder$Play" "GooseBorder$Play" "washed" "[I", Cond.laysFinal "GooseBorder$Play" "GooseBorder$Play" "gone" "[I", Cond.lays "GooseBorder$Play" "GooseBorder$Play" "recast" "I", Cond.lays "GooseBorder$Play" "GooseBorder$Play" "frost" "Z", Cond.lays "GooseBorder$Play" "GooseBorder$Play" "done" "I"] : List Cond), w ∈ gb_wA)
theorem w_197 : (Cond.fieldLink "GooseBorder$Play" (12 : Nat) "GooseBorder$Play" "border" "LGooseBorder$Border;") ∈ gb_wA := gb_t1 197 rfl rfl
theorem dX6_init_15 : decode cX6_init 15 = .ok (.aload_n 0, 1) := by decide +kernel
theorem dX6_init_16 : decode cX6_init 16 = .ok (.bipush 8, 2) := by decide +kernel
theorem dX6_init_18 : decode cX6_init 18 = .ok (.newarray .int, 2) := by decide +kernel
theorem dX6_init_20 : decode cX6_init 20 = .ok (.putfield 18, 3) := by decide +kernel
theorem w_198 : (Cond.fieldLink "GooseBorder$Play" (18 : Nat) "GooseBorder$Play" "where" "[I") ∈ gb_wA := gb_t1 198 rfl rfl
theorem dX6_init_23 : decode cX6_init 23 = .ok (.aload_n 0, 1) := by decide +kernel
theorem dX6_init_24 : decode cX6_init 24 = .ok (.bipush 8, 2) := by decide +kernel
theorem dX6_init_26 : decode cX6_init 26 = .ok (.newarray .int, 2) := by decide +kernel
theorem dX6_init_28 : decode cX6_init 28 = .ok (.putfield 22, 3) := by decide +kernel
theorem w_200 : (Cond.fieldLink "GooseBorder$Play" (22 : Nat) "GooseBorder$Play" "boots" "[I") ∈ gb_wA := gb_t1 200 rfl rfl
theorem dX6_init_31 : decode cX6_init 31 = .ok (.aload_n 0, 1) := by decide +kernel
theorem dX6_init_32 : decode cX6_init 32 = .ok (.bipush 8, 2) := by decide +kernel
theorem dX6_init_34 : decode cX6_init 34 = .ok (.newarray .int, 2) := by decide +kernel
theorem dX6_init_36 : decode cX6_init 36 = .ok (.putfield 25, 3) := by decide +kernel
theorem w_202 : (Cond.fieldLink "GooseBorder$Play" (25 : Nat) "GooseBorder$Play" "trail" "[I") ∈ gb_wA := gb_t1 202 rfl rfl
theorem dX6_init_39 : decode cX6_init 39 = .ok (.aload_n 0, 1) := by decide +kernel
theorem dX6_init_40 : decode cX6_init 40 = .ok (.bipush 8, 2) := by decide +kernel
theorem dX6_init_42 : decode cX6_init 42 = .ok (.newarray .int, 2) := by decide +kernel
theorem dX6_init_44 : decode cX6_init 44 = .ok (.putfield 28, 3) := by decide +kernel
theorem w_204 : (Cond.fieldLink "GooseBorder$Play" (28 : Nat) "GooseBorder$Play" "latest" "[I") ∈ gb_wA := gb_t1 204 rfl rfl
theorem dX6_init_47 : decode cX6_init 47 = .ok (.aload_n 0, 1) := by decide +kernel
theorem dX6_init_48 : decode cX6_init 48 = .ok (.iconst 5, 1) := by decide +kernel
theorem dX6_init_49 : decode cX6_init 49 = .ok (.newarray .int, 2) := by decide +kernel
theorem dX6_init_51 : decode cX6_init 51 = .ok (.putfield 31, 3) := by decide +kernel
theorem w_206 : (Cond.fieldLink "GooseBorder$Play" (31 : Nat) "GooseBorder$Play" "marks" "[I") ∈ gb_wA := gb_t1 206 rfl rfl
theorem dX6_init_54 : decode cX6_init 54 = .ok (.aload_n 0, 1) := by decide +kernel
theorem dX6_init_55 : decode cX6_init 55 = .ok (.iconst 5, 1) := by decide +kernel
theorem dX6_init_56 : decode cX6_init 56 = .ok (.newarray .int, 2) := by decide +kernel
theorem dX6_init_58 : decode cX6_init 58 = .ok (.putfield 34, 3) := by decide +kernel
theorem w_208 : (Cond.fieldLink "GooseBorder$Play" (34 : Nat) "GooseBorder$Play" "exports" "[I") ∈ gb_wA := gb_t1 208 rfl rfl
theorem dX6_init_61 : decode cX6_init 61 = .ok (.aload_n 0, 1) := by decide +kernel
theorem dX6_init_62 : decode cX6_init 62 = .ok (.iconst 5, 1) := by decide +kernel
theorem dX6_init_63 : decode cX6_init 63 = .ok (.newarray .int, 2) := by decide +kernel
theorem dX6_init_65 : decode cX6_init 65 = .ok (.putfield 37, 3) := by decide +kernel
theorem w_210 : (Cond.fieldLink "GooseBorder$Play" (37 : Nat) "GooseBorder$Play" "washed" "[I") ∈ gb_wA := gb_t1 210 rfl rfl
theorem dX6_init_68 : decode cX6_init 68 = .ok (.aload_n 0, 1) := by decide +kernel
theorem dX6_init_69 : decode cX6_init 69 = .ok (.bipush 40, 2) := by decide +kernel
theorem dX6_init_71 : decode cX6_init 71 = .ok (.newarray .int, 2) := by decide +kernel
theorem dX6_init_73 : decode cX6_init 73 = .ok (.putfield 40, 3) := by decide +kernel
theorem w_212 : (Cond.fieldLink "GooseBorder$Play" (40 : Nat) "GooseBorder$Play" "gone" "[I") ∈ gb_wA := gb_t1 212 rfl rfl
theorem dX6_init_76 : decode cX6_init 76 = .ok (.return_, 1) := by decide +kernel
set_option maxHeartbeats 4000000 in
set_option maxRecDepth 100000 in
theorem k_X6_init (l : Launch) (D : va_G) (cT : Nat → ClassId) (tt : Nat → Nat) (b1 b : Nat) (hb1 : b1 ≤ b) : Met l yX6_init (.code yX6_init cX6_init 1 none :: gb_wA) ({ frames := 3, cells := 10, slots := 146, locals := 55 }) (gb_Pc D cT tt b1 [.ref (b + 0)] (fun h => va_P D vwCl (gb_wl b [.inr (5, [.null, .null, .null, .null, .null, .null, .null, .null, .null, .int 0, .int 0, .int 0])]) h ∧ Array.size h = b + 1)) (gb_Qv (fun h => va_P D vwCl (gb_wl b [.inr (5, [.ref (b + 1), .ref (b + 3), .ref (b + 4), .ref (b + 5), .ref (b + 6), .ref (b + 7), .ref (b + 8), .ref (b + 9), .ref (b + 10), .int 0, .int 0, .int 0]), .inr (0, [.ref (b + 2)]), .inl (cT 0, 58, .inl (upd (fun _ => 0) 2 (-1))), .inl (cT 0, 8, .inl (fun _ => 0)), .inl (cT 0, 8, .inl (fun _ => 0)), .inl (cT 0, 8, .inl (fun _ => 0)), .inl (cT 0, 8, .inl (fun _ => 0)), .inl (cT 0, 5, .inl (fun _ => 0)), .inl (cT 0, 5, .inl (fun _ => 0)), .inl (cT 0, 5, .inl (fun _ => 0)), .inl (cT 0, 40, .inl (fun _ => 0))]) h ∧ Array.size h = b + 11) (gb_ge b)) 10 146 (gb_ge b) := by
  refine Met.ofW (cc := cX6_init) (maxL := 1) (ret := none) (by decide) rfl ?_
  intro p e s m args below meth c s₁ B hml hv
  obtain ⟨rfl, hSt, hP, hz⟩ := hv
  have hx := B.exec
  have hb := B.bytes
  have hr := B.returns
  have hts := atoms_spec (ws := .code yX6_init cX6_init 1 none :: gb_wA) B.pre
  have hq : ∀ w ∈ gb_wA, w.before _ s = true := fun w h => hts w (List.mem_cons_of_mem _ h)
  have hown : s.vm.findClass RX6 = some m.cls := findClass_of_methodNamed B.named
  have hlocks := B.notSynchronized
  have hin : meth.name = "<init>" := (name_of_methodNamed B.named B.method).1
  have hK := hSt.1
  have hS : va_S (gb_ge b) s.heap s.heap [] := va_S.rf
  have hl := lv_entry ([.ref (b + 0)]) (n := 1) (Nat.le_of_ble_eq_true rfl)
  rw [lg_entry_eq]
  generalize (lg_sl ([.ref (b + 0)]) ++ List.replicate (1 - (lg_sl ([.ref (b + 0)])).length) Slot.unset).toArray = ls at hl ⊢
  have hl : lv_has ls 1 [(0, .ref (b + 0))] := hl
  refine lv_aload_n hx hb dX6_init_0 rfl (lv_at hl 0 rfl) ?_
  refine W.objInit hx hb hown (hq _ w_194) (hq _ w_28) (hq _ w_29) rfl (by rw [hml]; exact hl.1) rfl dX6_init_1 (Nat.le_of_ble_eq_true rfl) (Nat.le_of_ble_eq_true rfl) ?_
  refine W.eq (g2 := F0 m 4 ls []) rfl ?_
  refine lv_aload_n hx hb dX6_init_4 rfl (lv_at hl 0 rfl) ?_
  refine gb_new (ci := 0) (fs := [.null]) (C := RX0) (T := TX0) (N := 1) hx hb hq i_X0 tyX0 tyX0_ok hown (hq _ w_195) (hq _ w_38) (hq _ w_4) hK hP hS 1 hz rfl rfl (fun j hj => by rcases (show j = 0 by omega) with rfl <;> rfl) (Nat.le_of_ble_eq_true rfl) (Nat.le_of_ble_eq_true rfl) dX6_init_5 (fun H hP hz hS => ?_)
  have hP : va_P D vwCl (gb_wl b [.inr (5, [.null, .null, .null, .null, .null, .null, .null, .null, .null, .int 0, .int 0, .int 0]), .inr (0, [.null])]) H := hP
  refine W.widen (k := 1) (n := 1) (Nat.le_of_ble_eq_true rfl) (Nat.le_of_ble_eq_true rfl) ?_
  refine lv_dup hx hb dX6_init_8 rfl ?_
  have hPc := gb_drop hP 1 (suf := [.inr (0, [.null])]) rfl rfl
  refine gb_callv (va_runI (As := []) (rest := [.ref (b + 1), .ref (b + 0)]) ⟨hx, hb, hml, hown, hq⟩ (k_X0_init l D cT tt b1 (b + 1) (Nat.le_trans hb1 (Nat.le_add_right b 1))) (cwI 0 hq (gb_gI w_41) rfl rfl rfl (hq _ w_4) (hq _ w_196) (hq _ w_40) rfl (by decide +kernel) ⟨Nat.le_of_ble_eq_true rfl, Nat.le_of_ble_eq_true rfl⟩) (gb_preS hSt hS (fun q h => Nat.le_trans hb1 h) (show va_P D vwCl (gb_wl (b + 1) [.inr (0, [.null])]) H ∧ Array.size H = b + 1 + 1 from ⟨hPc, hz⟩)) rfl rfl hl.1 rfl (lv_room (Nat.le_of_ble_eq_true rfl)) dX6_init_9 ⟨Nat.le_of_ble_eq_true rfl, Nat.le_of_ble_eq_true rfl⟩) hS (fun q h => Nat.le_trans (Nat.le_add_right b 1) h) (fun q h => Nat.le_trans (Nat.le_add_right b 1) h) (fun H locs hY hk hS => ?_)
  have hP := gb_glue hP 1 (pre := [.inr (5, [.null, .null, .null, .null, .null, .null, .null, .null, .null, .int 0, .int 0, .int 0])]) rfl rfl hk hY.1
  have hP : va_P D vwCl (gb_wl b [.inr (5, [.null, .null, .null, .null, .null, .null, .null, .null, .null, .int 0, .int 0, .int 0]), .inr (0, [.ref (b + 2)]), .inl (cT 0, 58, .inl (upd (fun _ => 0) 2 (-1)))]) H := hP
  have hz : Array.size H = b + 3 := hY.2
  refine W.widen (k := 2) (n := 59) (Nat.le_of_ble_eq_true rfl) (Nat.le_of_ble_eq_true rfl) ?_
  refine gb_put (ci := 5) (v := (.ref (b + 1))) (ty := .object "GooseBorder$Border") (C := RX6) (T := TX6) (N := 12) hx hb hq i_X6 tyX6 tyX6_ok nmX6 hown hK hP (fun k _ => Nat.le_add_right b k) hS hz 0 rfl rfl 0 (by decide) (hq _ w_197) (fun _ h9 => h9) rfl (by decide +kernel) rfl (by first | rfl | decide) (Nat.le_of_ble_eq_true rfl) dX6_init_12 (fun H locs hP hz hS => ?_)
  have hP : va_P D vwCl (gb_wl b [.inr (5, [.ref (b + 1), .null, .null, .null, .null, .null, .null, .null, .null, .int 0, .int 0, .int 0]), .inr (0, [.ref (b + 2)]), .inl (cT 0, 58, .inl (upd (fun _ => 0) 2 (-1)))]) H := hP
  refine lv_aload_n hx hb dX6_init_15 rfl (lv_at hl 0 rfl) ?_
  refine lv_bipush (v := 8) hx hb dX6_init_16 (by decide) ?_
  refine gb_newa (atype := .int) (a0 := (8, .inl (fun _ => 0))) hx hb (hq _ w_59) (ty := .int) rfl hK hP hS 3 hz rfl 0 rfl (fun h => h) (fun _ => rfl) (by decide) (by decide) (Nat.le_of_ble_eq_true rfl) (Nat.le_of_ble_eq_true rfl) (Nat.le_of_ble_eq_true rfl) dX6_init_18 (fun H hP hz hS => ?_)
  have hP : va_P D vwCl (gb_wl b [.inr (5, [.ref (b + 1), .null, .null, .null, .null, .null, .null, .null, .null, .int 0, .int 0, .int 0]), .inr (0, [.ref (b + 2)]), .inl (cT 0, 58, .inl (upd (fun _ => 0) 2 (-1))), .inl (cT 0, 8, .inl (fun _ => 0))]) H := hP
  refine W.widen (k := 3) (n := 67) (Nat.le_of_ble_eq_true rfl) (Nat.le_of_ble_eq_true rfl) ?_
  refine gb_putF (ci := 5) (v := (.ref (b + 3))) (ty := .array .int) (C := RX6) (T := TX6) (N := 12) hx hb hq i_X6 tyX6 tyX6_ok nmX6 hown hK hP (fun k _ => Nat.le_add_right b k) hS hz 0 rfl rfl 1 (by decide) (hq _ w_198) (fun _ h9 => h9) rfl hin rfl (by decide +kernel) rfl rfl (Nat.le_of_ble_eq_true rfl) dX6_init_20 (fun H locs hP hz hS => ?_)
  have hP : va_P D vwCl (gb_wl b [.inr (5, [.ref (b + 1), .ref (b + 3), .null, .null, .null, .null, .null, .null, .null, .int 0, .int 0, .int 0]), .inr (0, [.ref (b + 2)]), .inl (cT 0, 58, .inl (upd (fun _ => 0) 2 (-1))), .inl (cT 0, 8, .inl (fun _ => 0))]) H := hP
  refine lv_aload_n hx hb dX6_init_23 rfl (lv_at hl 0 rfl) ?_
  refine lv_bipush (v := 8) hx hb dX6_init_24 (by decide) ?_
  refine gb_newa (atype := .int) (a0 := (8, .inl (fun _ => 0))) hx hb (hq _ w_59) (ty := .int) rfl hK hP hS 4 hz rfl 0 rfl (fun h => h) (fun _ => rfl) (by decide) (by decide) (Nat.le_of_ble_eq_true rfl) (Nat.le_of_ble_eq_true rfl) (Nat.le_of_ble_eq_true rfl) dX6_init_26 (fun H hP hz hS => ?_)
  have hP : va_P D vwCl (gb_wl b [.inr (5, [.ref (b + 1), .ref (b + 3), .null, .null, .null, .null, .null, .null, .null, .int 0, .int 0, .int 0]), .inr (0, [.ref (b + 2)]), .inl (cT 0, 58, .inl (upd (fun _ => 0) 2 (-1))), .inl (cT 0, 8, .inl (fun _ => 0)), .inl (cT 0, 8, .inl (fun _ => 0))]) H := hP
  refine W.widen (k := 4) (n := 75) (Nat.le_of_ble_eq_true rfl) (Nat.le_of_ble_eq_true rfl) ?_
  refine gb_putF (ci := 5) (v := (.ref (b + 4))) (ty := .array .int) (C := RX6) (T := TX6) (N := 12) hx hb hq i_X6 tyX6 tyX6_ok nmX6 hown hK hP (fun k _ => Nat.le_add_right b k) hS hz 0 rfl rfl 2 (by decide) (hq _ w_200) (fun _ h9 => h9) rfl hin rfl (by decide +kernel) rfl rfl (Nat.le_of_ble_eq_true rfl) dX6_init_28 (fun H locs hP hz hS => ?_)
  have hP : va_P D vwCl (gb_wl b [.inr (5, [.ref (b + 1), .ref (b + 3), .ref (b + 4), .null, .null, .null, .null, .null, .null, .int 0, .int 0, .int 0]), .inr (0, [.ref (b + 2)]), .inl (cT 0, 58, .inl (upd (fun _ => 0) 2 (-1))), .inl (cT 0, 8, .inl (fun _ => 0)), .inl (cT 0, 8, .inl (fun _ => 0))]) H := hP
  refine lv_aload_n hx hb dX6_init_31 rfl (lv_at hl 0 rfl) ?_
  refine lv_bipush (v := 8) hx hb dX6_init_32 (by decide) ?_
  refine gb_newa (atype := .int) (a0 := (8, .inl (fun _ => 0))) hx hb (hq _ w_59) (ty := .int) rfl hK hP hS 5 hz rfl 0 rfl (fun h => h) (fun _ => rfl) (by decide) (by decide) (Nat.le_of_ble_eq_true rfl) (Nat.le_of_ble_eq_true rfl) (Nat.le_of_ble_eq_true rfl) dX6_init_34 (fun H hP hz hS => ?_)
  have hP : va_P D vwCl (gb_wl b [.inr (5, [.ref (b + 1), .ref (b + 3), .ref (b + 4), .null, .null, .null, .null, .null, .null, .int 0, .int 0, .int 0]), .inr (0, [.ref (b + 2)]), .inl (cT 0, 58, .inl (upd (fun _ => 0) 2 (-1))), .inl (cT 0, 8, .inl (fun _ => 0)), .inl (cT 0, 8, .inl (fun _ => 0)), .inl (cT 0, 8, .inl (fun _ => 0))]) H := hP
  refine W.widen (k := 5) (n := 83) (Nat.le_of_ble_eq_true rfl) (Nat.le_of_ble_eq_true rfl) ?_
  refine gb_putF (ci := 5) (v := (.ref (b + 5))) (ty := .array .int) (C := RX6) (T := TX6) (N := 12) hx hb hq i_X6 tyX6 tyX6_ok nmX6 hown hK hP (fun k _ => Nat.le_add_right b k) hS hz 0 rfl rfl 3 (by decide) (hq _ w_202) (fun _ h9 => h9) rfl hin rfl (by decide +kernel) rfl rfl (Nat.le_of_ble_eq_true rfl) dX6_init_36 (fun H locs hP hz hS => ?_)
  have hP : va_P D vwCl (gb_wl b [.inr (5, [.ref (b + 1), .ref (b + 3), .ref (b + 4), .ref (b + 5), .null, .null, .null, .null, .null, .int 0, .int 0, .int 0]), .inr (0, [.ref (b + 2)]), .inl (cT 0, 58, .inl (upd (fun _ => 0) 2 (-1))), .inl (cT 0, 8, .inl (fun _ => 0)), .inl (cT 0, 8, .inl (fun _ => 0)), .inl (cT 0, 8, .inl (fun _ => 0))]) H := hP
  refine lv_aload_n hx hb dX6_init_39 rfl (lv_at hl 0 rfl) ?_
  refine lv_bipush (v := 8) hx hb dX6_init_40 (by decide) ?_
  refine gb_newa (atype := .int) (a0 := (8, .inl (fun _ => 0))) hx hb (hq _ w_59) (ty := .int) rfl hK hP hS 6 hz rfl 0 rfl (fun h => h) (fun _ => rfl) (by decide) (by decide) (Nat.le_of_ble_eq_true rfl) (Nat.le_of_ble_eq_true rfl) (Nat.le_of_ble_eq_true rfl) dX6_init_42 (fun H hP hz hS => ?_)
  have hP : va_P D vwCl (gb_wl b [.inr (5, [.ref (b + 1), .ref (b + 3), .ref (b + 4), .ref (b + 5), .null, .null, .null, .null, .null, .int 0, .int 0, .int 0]), .inr (0, [.ref (b + 2)]), .inl (cT 0, 58, .inl (upd (fun _ => 0) 2 (-1))), .inl (cT 0, 8, .inl (fun _ => 0)), .inl (cT 0, 8, .inl (fun _ => 0)), .inl (cT 0, 8, .inl (fun _ => 0)), .inl (cT 0, 8, .inl (fun _ => 0))]) H := hP
  refine W.widen (k := 6) (n := 91) (Nat.le_of_ble_eq_true rfl) (Nat.le_of_ble_eq_true rfl) ?_
  refine gb_putF (ci := 5) (v := (.ref (b + 6))) (ty := .array .int) (C := RX6) (T := TX6) (N := 12) hx hb hq i_X6 tyX6 tyX6_ok nmX6 hown hK hP (fun k _ => Nat.le_add_right b k) hS hz 0 rfl rfl 4 (by decide) (hq _ w_204) (fun _ h9 => h9) rfl hin rfl (by decide +kernel) rfl rfl (Nat.le_of_ble_eq_true rfl) dX6_init_44 (fun H locs hP hz hS => ?_)
  have hP : va_P D vwCl (gb_wl b [.inr (5, [.ref (b + 1), .ref (b + 3), .ref (b + 4), .ref (b + 5), .ref (b + 6), .null, .null, .null, .null, .int 0, .int 0, .int 0]), .inr (0, [.ref (b + 2)]), .inl (cT 0, 58, .inl (upd (fun _ => 0) 2 (-1))), .inl (cT 0, 8, .inl (fun _ => 0)), .inl (cT 0, 8, .inl (fun _ => 0)), .inl (cT 0, 8, .inl (fun _ => 0)), .inl (cT 0, 8, .inl (fun _ => 0))]) H := hP
  refine lv_aload_n hx hb dX6_init_47 rfl (lv_at hl 0 rfl) ?_
  refine lv_iconst (v := 5) hx hb dX6_init_48 (by decide) ?_
  refine gb_newa (atype := .int) (a0 := (5, .inl (fun _ => 0))) hx hb (hq _ w_59) (ty := .int) rfl hK hP hS 7 hz rfl 0 rfl (fun h => h) (fun _ => rfl) (by decide) (by decide) (Nat.le_of_ble_eq_true rfl) (Nat.le_of_ble_eq_true rfl) (Nat.le_of_ble_eq_true rfl) dX6_init_49 (fun H hP hz hS => ?_)
  have hP : va_P D vwCl (gb_wl b [.inr (5, [.ref (b + 1), .ref (b + 3), .ref (b + 4), .ref (b + 5), .ref (b + 6), .null, .null, .null, .null, .int 0, .int 0, .int 0]), .inr (0, [.ref (b + 2)]), .inl (cT 0, 58, .inl (upd (fun _ => 0) 2 (-1))), .inl (cT 0, 8, .inl (fun _ => 0)), .inl (cT 0, 8, .inl (fun _ => 0)), .inl (cT 0, 8, .inl (fun _ => 0)), .inl (cT 0, 8, .inl (fun _ => 0)), .inl (cT 0, 5, .inl (fun _ => 0))]) H := hP
  refine W.widen (k := 7) (n := 96) (Nat.le_of_ble_eq_true rfl) (Nat.le_of_ble_eq_true rfl) ?_
  refine gb_putF (ci := 5) (v := (.ref (b + 7))) (ty := .array .int) (C := RX6) (T := TX6) (N := 12) hx hb hq i_X6 tyX6 tyX6_ok nmX6 hown hK hP (fun k _ => Nat.le_add_right b k) hS hz 0 rfl rfl 5 (by decide) (hq _ w_206) (fun _ h9 => h9) rfl hin rfl (by decide +kernel) rfl rfl (Nat.le_of_ble_eq_true rfl) dX6_init_51 (fun H locs hP hz hS => ?_)
  have hP : va_P D vwCl (gb_wl b [.inr (5, [.ref (b + 1), .ref (b + 3), .ref (b + 4), .ref (b + 5), .ref (b + 6), .ref (b + 7), .null, .null, .null, .int 0, .int 0, .int 0]), .inr (0, [.ref (b + 2)]), .inl (cT 0, 58, .inl (upd (fun _ => 0) 2 (-1))), .inl (cT 0, 8, .inl (fun _ => 0)), .inl (cT 0, 8, .inl (fun _ => 0)), .inl (cT 0, 8, .inl (fun _ => 0)), .inl (cT 0, 8, .inl (fun _ => 0)), .inl (cT 0, 5, .inl (fun _ => 0))]) H := hP
  refine lv_aload_n hx hb dX6_init_54 rfl (lv_at hl 0 rfl) ?_
  refine lv_iconst (v := 5) hx hb dX6_init_55 (by decide) ?_
  refine gb_newa (atype := .int) (a0 := (5, .inl (fun _ => 0))) hx hb (hq _ w_59) (ty := .int) rfl hK hP hS 8 hz rfl 0 rfl (fun h => h) (fun _ => rfl) (by decide) (by decide) (Nat.le_of_ble_eq_true rfl) (Nat.le_of_ble_eq_true rfl) (Nat.le_of_ble_eq_true rfl) dX6_init_56 (fun H hP hz hS => ?_)
  have hP : va_P D vwCl (gb_wl b [.inr (5, [.ref (b + 1), .ref (b + 3), .ref (b + 4), .ref (b + 5), .ref (b + 6), .ref (b + 7), .null, .null, .null, .int 0, .int 0, .int 0]), .inr (0, [.ref (b + 2)]), .inl (cT 0, 58, .inl (upd (fun _ => 0) 2 (-1))), .inl (cT 0, 8, .inl (fun _ => 0)), .inl (cT 0, 8, .inl (fun _ => 0)), .inl (cT 0, 8, .inl (fun _ => 0)), .inl (cT 0, 8, .inl (fun _ => 0)), .inl (cT 0, 5, .inl (fun _ => 0)), .inl (cT 0, 5, .inl (fun _ => 0))]) H := hP
  refine W.widen (k := 8) (n := 101) (Nat.le_of_ble_eq_true rfl) (Nat.le_of_ble_eq_true rfl) ?_
  refine gb_putF (ci := 5) (v := (.ref (b + 8))) (ty := .array .int) (C := RX6) (T := TX6) (N := 12) hx hb hq i_X6 tyX6 tyX6_ok nmX6 hown hK hP (fun k _ => Nat.le_add_right b k) hS hz 0 rfl rfl 6 (by decide) (hq _ w_208) (fun _ h9 => h9) rfl hin rfl (by decide +kernel) rfl rfl (Nat.le_of_ble_eq_true rfl) dX6_init_58 (fun H locs hP hz hS => ?_)
  have hP : va_P D vwCl (gb_wl b [.inr (5, [.ref (b + 1), .ref (b + 3), .ref (b + 4), .ref (b + 5), .ref (b + 6), .ref (b + 7), .ref (b + 8), .null, .null, .int 0, .int 0, .int 0]), .inr (0, [.ref (b + 2)]), .inl (cT 0, 58, .inl (upd (fun _ => 0) 2 (-1))), .inl (cT 0, 8, .inl (fun _ => 0)), .inl (cT 0, 8, .inl (fun _ => 0)), .inl (cT 0, 8, .inl (fun _ => 0)), .inl (cT 0, 8, .inl (fun _ => 0)), .inl (cT 0, 5, .inl (fun _ => 0)), .inl (cT 0, 5, .inl (fun _ => 0))]) H := hP
  refine lv_aload_n hx hb dX6_init_61 rfl (lv_at hl 0 rfl) ?_
  refine lv_iconst (v := 5) hx hb dX6_init_62 (by decide) ?_
  refine gb_newa (atype := .int) (a0 := (5, .inl (fun _ => 0))) hx hb (hq _ w_59) (ty := .int) rfl hK hP hS 9 hz rfl 0 rfl (fun h => h) (fun _ => rfl) (by decide) (by decide) (Nat.le_of_ble_eq_true rfl) (Nat.le_of_ble_eq_true rfl) (Nat.le_of_ble_eq_true rfl) dX6_init_63 (fun H hP hz hS => ?_)
  have hP : va_P D vwCl (gb_wl b [.inr (5, [.ref (b + 1), .ref (b + 3), .ref (b + 4), .ref (b + 5), .ref (b + 6), .ref (b + 7), .ref (b + 8), .null, .null, .int 0, .int 0, .int 0]), .inr (0, [.ref (b + 2)]), .inl (cT 0, 58, .inl (upd (fun _ => 0) 2 (-1))), .inl (cT 0, 8, .inl (fun _ => 0)), .inl (cT 0, 8, .inl (fun _ => 0)), .inl (cT 0, 8, .inl (fun _ => 0)), .inl (cT 0, 8, .inl (fun _ => 0)), .inl (cT 0, 5, .inl (fun _ => 0)), .inl (cT 0, 5, .inl (fun _ => 0)), .inl (cT 0, 5, .inl (fun _ => 0))]) H := hP
  refine W.widen (k := 9) (n := 106) (Nat.le_of_ble_eq_true rfl) (Nat.le_of_ble_eq_true rfl) ?_
  refine gb_putF (ci := 5) (v := (.ref (b + 9))) (ty := .array .int) (C := RX6) (T := TX6) (N := 12) hx hb hq i_X6 tyX6 tyX6_ok nmX6 hown hK hP (fun k _ => Nat.le_add_right b k) hS hz 0 rfl rfl 7 (by decide) (hq _ w_210) (fun _ h9 => h9) rfl hin rfl (by decide +kernel) rfl rfl (Nat.le_of_ble_eq_true rfl) dX6_init_65 (fun H locs hP hz hS => ?_)
  have hP : va_P D vwCl (gb_wl b [.inr (5, [.ref (b + 1), .ref (b + 3), .ref (b + 4), .ref (b + 5), .ref (b + 6), .ref (b + 7), .ref (b + 8), .ref (b + 9), .null, .int 0, .int 0, .int 0]), .inr (0, [.ref (b + 2)]), .inl (cT 0, 58, .inl (upd (fun _ => 0) 2 (-1))), .inl (cT 0, 8, .inl (fun _ => 0)), .inl (cT 0, 8, .inl (fun _ => 0)), .inl (cT 0, 8, .inl (fun _ => 0)), .inl (cT 0, 8, .inl (fun _ => 0)), .inl (cT 0, 5, .inl (fun _ => 0)), .inl (cT 0, 5, .inl (fun _ => 0)), .inl (cT 0, 5, .inl (fun _ => 0))]) H := hP
  refine lv_aload_n hx hb dX6_init_68 rfl (lv_at hl 0 rfl) ?_
  refine lv_bipush (v := 40) hx hb dX6_init_69 (by decide) ?_
  refine gb_newa (atype := .int) (a0 := (40, .inl (fun _ => 0))) hx hb (hq _ w_59) (ty := .int) rfl hK hP hS 10 hz rfl 0 rfl (fun h => h) (fun _ => rfl) (by decide) (by decide) (Nat.le_of_ble_eq_true rfl) (Nat.le_of_ble_eq_true rfl) (Nat.le_of_ble_eq_true rfl) dX6_init_71 (fun H hP hz hS => ?_)
  have hP : va_P D vwCl (gb_wl b [.inr (5, [.ref (b + 1), .ref (b + 3), .ref (b + 4), .ref (b + 5), .ref (b + 6), .ref (b + 7), .ref (b + 8), .ref (b + 9), .null, .int 0, .int 0, .int 0]), .inr (0, [.ref (b + 2)]), .inl (cT 0, 58, .inl (upd (fun _ => 0) 2 (-1))), .inl (cT 0, 8, .inl (fun _ => 0)), .inl (cT 0, 8, .inl (fun _ => 0)), .inl (cT 0, 8, .inl (fun _ => 0)), .inl (cT 0, 8, .inl (fun _ => 0)), .inl (cT 0, 5, .inl (fun _ => 0)), .inl (cT 0, 5, .inl (fun _ => 0)), .inl (cT 0, 5, .inl (fun _ => 0)), .inl (cT 0, 40, .inl (fun _ => 0))]) H := hP
  refine W.widen (k := 10) (n := 146) (Nat.le_of_ble_eq_true rfl) (Nat.le_of_ble_eq_true rfl) ?_
  refine gb_putF (ci := 5) (v := (.ref (b + 10))) (ty := .array .int) (C := RX6) (T := TX6) (N := 12) hx hb hq i_X6 tyX6 tyX6_ok nmX6 hown hK hP (fun k _ => Nat.le_add_right b k) hS hz 0 rfl rfl 8 (by decide) (hq _ w_212) (fun _ h9 => h9) rfl hin rfl (by decide +kernel) rfl rfl (Nat.le_of_ble_eq_true rfl) dX6_init_73 (fun H locs hP hz hS => ?_)
  have hP : va_P D vwCl (gb_wl b [.inr (5, [.ref (b + 1), .ref (b + 3), .ref (b + 4), .ref (b + 5), .ref (b + 6), .ref (b + 7), .ref (b + 8), .ref (b + 9), .ref (b + 10), .int 0, .int 0, .int 0]), .inr (0, [.ref (b + 2)]), .inl (cT 0, 58, .inl (upd (fun _ => 0) 2 (-1))), .inl (cT 0, 8, .inl (fun _ => 0)), .inl (cT 0, 8, .inl (fun _ => 0)), .inl (cT 0, 8, .inl (fun _ => 0)), .inl (cT 0, 8, .inl (fun _ => 0)), .inl (cT 0, 5, .inl (fun _ => 0)), .inl (cT 0, 5, .inl (fun _ => 0)), .inl (cT 0, 5, .inl (fun _ => 0)), .inl (cT 0, 40, .inl (fun _ => 0))]) H := hP
  exact W.vret hx hb hr (fun t ht hW => gb_rv ht ⟨hP, hz⟩ hS) hS.2.2 dX6_init_76
theorem dX8_init_0 : decode cX8_init 0 = .ok (.aload_n 0, 1) := by decide +kernel
theorem dX8_init_1 : decode cX8_init 1 = .ok (.invokespecial 3, 3) := by decide +kernel
theorem w_248 : (Cond.methodLink "GooseBorder$Sharing" (3 : Nat) ({ cls := "java/lang/Object", name := "<init>", desc := "()V" } : MethodName)) ∈ gb_wA := gb_t2 8 rfl rfl
theorem dX8_init_4 : decode cX8_init 4 = .ok (.aload_n 0, 1) := by decide +kernel
theorem dX8_init_5 : decode cX8_init 5 = .ok (.new 9, 3) := by decide +kernel
theorem w_249 : (Cond.classLink "GooseBorder$Sharing" (9 : Nat) "GooseBorder$Border") ∈ gb_wA := gb_t2 9 rfl rfl
theorem dX8_init_8 : decode cX8_init 8 = .ok (.dup, 1) := by decide +kernel
theorem dX8_init_9 : decode cX8_init 9 = .ok (.invokespecial 11, 3) := by decide +kernel
theorem w_250 : (Cond.methodLink "GooseBorder$Sharing" (11 : Nat) ({ cls := "GooseBorder$Border", name := "<init>", desc := "()V" } : MethodName)) ∈ gb_wA := gb_t2 10 rfl rfl
theorem dX8_init_12 : decode cX8_init 12 = .ok (.putfield 12, 3) := by decide +kernel
theorem w_265 : (Cond.lays "GooseBorder$Sharing" "GooseBorder$Sharing" "border" "LGooseBorder$Border;") ∈ gb_wA := gb_t2 25 rfl rfl
theorem w_267 : (Cond.lays "GooseBorder$Sharing" "GooseBorder$Sharing" "law" "LGooseBorder$Law;") ∈ gb_wA := gb_t2 27 rfl rfl
theorem w_269 : (Cond.laysFinal "GooseBorder$Sharing" "GooseBorder$Sharing" "marks" "[I") ∈ gb_wA := gb_t2 29 rfl rfl
theorem w_271 : (Cond.laysFinal "GooseBorder$Sharing" "GooseBorder$Sharing" "open" "[I") ∈ gb_wA := gb_t2 31 rfl rfl
theorem w_273 : (Cond.lays "GooseBorder$Sharing" "GooseBorder$Sharing" "opened" "I") ∈ gb_wA := gb_t2 33 rfl rfl
theorem w_275 : (Cond.laysFinal "GooseBorder$Sharing" "GooseBorder$Sharing" "row" "[I") ∈ gb_wA := gb_t2 35 rfl rfl
theorem w_277 : (Cond.laysFinal "GooseBorder$Sharing" "GooseBorder$Sharing" "tallies" "[I") ∈ gb_wA := gb_t2 37 rfl rfl
theorem w_279 : (Cond.laysFinal "GooseBorder$Sharing" "GooseBorder$Sharing" "pay" "[I") ∈ gb_wA := gb_t2 39 rfl rfl
theorem w_281 : (Cond.laysFinal "GooseBorder$Sharing" "GooseBorder$Sharing" "best" "[I") ∈ gb_wA := gb_t2 41 rfl rfl
theorem w_283 : (Cond.laysFinal "GooseBorder$Sharing" "GooseBorder$Sharing" "bestPay" "[I") ∈ gb_wA := gb_t2 43 rfl rfl
theorem w_285 : (Cond.lays "GooseBorder$Sharing" "GooseBorder$Sharing" "bestValue" "I") ∈ gb_wA := gb_t2 45 rfl rfl
theorem i_X8 : ∀ w ∈ u_ws RX8 TX8 11, w ∈ gb_wA := (List.forall_mem_cons.mpr ⟨w_265, List.forall_mem_cons.mpr ⟨w_267, List.forall_mem_cons.mpr ⟨w_269, List.forall_mem_cons.mpr ⟨w_271, List.forall_mem_cons.mpr ⟨w_273, List.forall_mem_cons.mpr ⟨w_275, List.forall_mem_cons.mpr ⟨w_277, List.forall_mem_cons.mpr ⟨w_279, List.forall_mem_cons.mpr ⟨w_281, List.forall_mem_cons.mpr ⟨w_283, List.forall_mem_cons.mpr ⟨w_285, fun _ h => absurd h List.not_mem_nil⟩⟩⟩⟩⟩⟩⟩⟩⟩⟩⟩ : ∀ w ∈ ([Cond.lays "GooseBorder$Sharing" "GooseBorder$Sharing" "border" "LGooseBorder$Border;", Cond.lays "GooseBorder$Sharing" "GooseBorder$Sharing" "law" "LGooseBorder$Law;", Cond.laysFinal "GooseBorder$Sharing" "GooseBorder$Sharing" "marks" "[I", Cond.laysFinal "GooseBorder$Sharing" "GooseBorder$Sharing" "open" "[I", Cond.lays "GooseBorder$Sharing" "GooseBorder$Sharing" "opened" "I", Cond.laysFinal "GooseBorder$Sharing" "GooseBorder$Sharing" "row" "[I", Cond.laysFinal "GooseBorder$Sharing" "GooseBorder$Sharing" "tallies" "[I", Cond.laysFinal "GooseBorder$Sharing" "GooseBorder$Sharing" "pay" "[I", Cond.laysFinal "GooseBorder$Sharing" "GooseBorder$Sharing" "best" "[I", Cond.laysFinal "GooseBorder$Sharing" "GooseBorder$Sharing" "bestPay" "[I", Cond.lays "GooseBorder$Sharing" "GooseBorder$Sharing" "bestValue" "I"] : List Cond), w ∈ gb_wA)
theorem w_251 : (Cond.fieldLink "GooseBorder$Sharing" (12 : Nat) "GooseBorder$Sharing" "border" "LGooseBorder$Border;") ∈ gb_wA := gb_t2 11 rfl rfl
theorem dX8_init_15 : decode cX8_init 15 = .ok (.aload_n 0, 1) := by decide +kernel
theorem dX8_init_16 : decode cX8_init 16 = .ok (.bipush 40, 2) := by decide +kernel
theorem dX8_init_18 : decode cX8_init 18 = .ok (.newarray .int, 2) := by decide +kernel
theorem dX8_init_20 : decode cX8_init 20 = .ok (.putfield 18, 3) := by decide +kernel
theorem w_253 : (Cond.fieldLink "GooseBorder$Sharing" (18 : Nat) "GooseBorder$Sharing" "marks" "[I") ∈ gb_wA := gb_t2 13 rfl rfl
theorem dX8_init_23 : decode cX8_init 23 = .ok (.aload_n 0, 1) := by decide +kernel
theorem dX8_init_24 : decode cX8_init 24 = .ok (.iconst 5, 1) := by decide +kernel
theorem dX8_init_25 : decode cX8_init 25 = .ok (.newarray .int, 2) := by decide +kernel
theorem dX8_init_27 : decode cX8_init 27 = .ok (.putfield 22, 3) := by decide +kernel
theorem w_254 : (Cond.fieldLink "GooseBorder$Sharing" (22 : Nat) "GooseBorder$Sharing" "open" "[I") ∈ gb_wA := gb_t2 14 rfl rfl
theorem dX8_init_30 : decode cX8_init 30 = .ok (.aload_n 0, 1) := by decide +kernel
theorem dX8_init_31 : decode cX8_init 31 = .ok (.bipush 8, 2) := by decide +kernel
theorem dX8_init_33 : decode cX8_init 33 = .ok (.newarray .int, 2) := by decide +kernel
theorem dX8_init_35 : decode cX8_init 35 = .ok (.putfield 25, 3) := by decide +kernel
theorem w_256 : (Cond.fieldLink "GooseBorder$Sharing" (25 : Nat) "GooseBorder$Sharing" "row" "[I") ∈ gb_wA := gb_t2 16 rfl rfl
theorem dX8_init_38 : decode cX8_init 38 = .ok (.aload_n 0, 1) := by decide +kernel
theorem dX8_init_39 : decode cX8_init 39 = .ok (.iconst 5, 1) := by decide +kernel
theorem dX8_init_40 : decode cX8_init 40 = .ok (.newarray .int, 2) := by decide +kernel
theorem dX8_init_42 : decode cX8_init 42 = .ok (.putfield 28, 3) := by decide +kernel
theorem w_257 : (Cond.fieldLink "GooseBorder$Sharing" (28 : Nat) "GooseBorder$Sharing" "tallies" "[I") ∈ gb_wA := gb_t2 17 rfl rfl
theorem dX8_init_45 : decode cX8_init 45 = .ok (.aload_n 0, 1) := by decide +kernel
theorem dX8_init_46 : decode cX8_init 46 = .ok (.iconst 5, 1) := by decide +kernel
theorem dX8_init_47 : decode cX8_init 47 = .ok (.newarray .int, 2) := by decide +kernel
theorem dX8_init_49 : decode cX8_init 49 = .ok (.putfield 31, 3) := by decide +kernel
theorem w_258 : (Cond.fieldLink "GooseBorder$Sharing" (31 : Nat) "GooseBorder$Sharing" "pay" "[I") ∈ gb_wA := gb_t2 18 rfl rfl
theorem dX8_init_52 : decode cX8_init 52 = .ok (.aload_n 0, 1) := by decide +kernel
theorem dX8_init_53 : decode cX8_init 53 = .ok (.bipush 8, 2) := by decide +kernel
theorem dX8_init_55 : decode cX8_init 55 = .ok (.newarray .int, 2) := by decide +kernel
theorem dX8_init_57 : decode cX8_init 57 = .ok (.putfield 34, 3) := by decide +kernel
theorem w_259 : (Cond.fieldLink "GooseBorder$Sharing" (34 : Nat) "GooseBorder$Sharing" "best" "[I") ∈ gb_wA := gb_t2 19 rfl rfl
theorem dX8_init_60 : decode cX8_init 60 = .ok (.aload_n 0, 1) := by decide +kernel
theorem dX8_init_61 : decode cX8_init 61 = .ok (.iconst 5, 1) := by decide +kernel
theorem dX8_init_62 : decode cX8_init 62 = .ok (.newarray .int, 2) := by decide +kernel
theorem dX8_init_64 : decode cX8_init 64 = .ok (.putfield 37, 3) := by decide +kernel
theorem w_261 : (Cond.fieldLink "GooseBorder$Sharing" (37 : Nat) "GooseBorder$Sharing" "bestPay" "[I") ∈ gb_wA := gb_t2 21 rfl rfl
theorem dX8_init_67 : decode cX8_init 67 = .ok (.return_, 1) := by decide +kernel
set_option maxHeartbeats 4000000 in
set_option maxRecDepth 100000 in
theorem k_X8_init (l : Launch) (D : va_G) (cT : Nat → ClassId) (tt : Nat → Nat) (b1 b : Nat) (hb1 : b1 ≤ b) : Met l yX8_init (.code yX8_init cX8_init 1 none :: gb_wA) ({ frames := 3, cells := 9, slots := 135, locals := 55 }) (gb_Pc D cT tt b1 [.ref (b + 0)] (fun h => va_P D vwCl (gb_wl b [.inr (7, [.null, .null, .null, .null, .int 0, .null, .null, .null, .null, .null, .int 0])]) h ∧ Array.size h = b + 1)) (gb_Qv (fun h => va_P D vwCl (gb_wl b [.inr (7, [.ref (b + 1), .null, .ref (b + 3), .ref (b + 4), .int 0, .ref (b + 5), .ref (b + 6), .ref (b + 7), .ref (b + 8), .ref (b + 9), .int 0]), .inr (0, [.ref (b + 2)]), .inl (cT 0, 58, .inl (upd (fun _ => 0) 2 (-1))), .inl (cT 0, 40, .inl (fun _ => 0)), .inl (cT 0, 5, .inl (fun _ => 0)), .inl (cT 0, 8, .inl (fun _ => 0)), .inl (cT 0, 5, .inl (fun _ => 0)), .inl (cT 0, 5, .inl (fun _ => 0)), .inl (cT 0, 8, .inl (fun _ => 0)), .inl (cT 0, 5, .inl (fun _ => 0))]) h ∧ Array.size h = b + 10) (gb_ge b)) 9 135 (gb_ge b) := by
  refine Met.ofW (cc := cX8_init) (maxL := 1) (ret := none) (by decide) rfl ?_
  intro p e s m args below meth c s₁ B hml hv
  obtain ⟨rfl, hSt, hP, hz⟩ := hv
  have hx := B.exec
  have hb := B.bytes
  have hr := B.returns
  have hts := atoms_spec (ws := .code yX8_init cX8_init 1 none :: gb_wA) B.pre
  have hq : ∀ w ∈ gb_wA, w.before _ s = true := fun w h => hts w (List.mem_cons_of_mem _ h)
  have hown : s.vm.findClass RX8 = some m.cls := findClass_of_methodNamed B.named
  have hlocks := B.notSynchronized
  have hin : meth.name = "<init>" := (name_of_methodNamed B.named B.method).1
  have hK := hSt.1
  have hS : va_S (gb_ge b) s.heap s.heap [] := va_S.rf
  have hl := lv_entry ([.ref (b + 0)]) (n := 1) (Nat.le_of_ble_eq_true rfl)
  rw [lg_entry_eq]
  generalize (lg_sl ([.ref (b + 0)]) ++ List.replicate (1 - (lg_sl ([.ref (b + 0)])).length) Slot.unset).toArray = ls at hl ⊢
  have hl : lv_has ls 1 [(0, .ref (b + 0))] := hl
  refine lv_aload_n hx hb dX8_init_0 rfl (lv_at hl 0 rfl) ?_
  refine W.objInit hx hb hown (hq _ w_248) (hq _ w_28) (hq _ w_29) rfl (by rw [hml]; exact hl.1) rfl dX8_init_1 (Nat.le_of_ble_eq_true rfl) (Nat.le_of_ble_eq_true rfl) ?_
  refine W.eq (g2 := F0 m 4 ls []) rfl ?_
  refine lv_aload_n hx hb dX8_init_4 rfl (lv_at hl 0 rfl) ?_
  refine gb_new (ci := 0) (fs := [.null]) (C := RX0) (T := TX0) (N := 1) hx hb hq i_X0 tyX0 tyX0_ok hown (hq _ w_249) (hq _ w_38) (hq _ w_4) hK hP hS 1 hz rfl rfl (fun j hj => by rcases (show j = 0 by omega) with rfl <;> rfl) (Nat.le_of_ble_eq_true rfl) (Nat.le_of_ble_eq_true rfl) dX8_init_5 (fun H hP hz hS => ?_)
  have hP : va_P D vwCl (gb_wl b [.inr (7, [.null, .null, .null, .null, .int 0, .null, .null, .null, .null, .null, .int 0]), .inr (0, [.null])]) H := hP
  refine W.widen (k := 1) (n := 1) (Nat.le_of_ble_eq_true rfl) (Nat.le_of_ble_eq_true rfl) ?_
  refine lv_dup hx hb dX8_init_8 rfl ?_
  have hPc := gb_drop hP 1 (suf := [.inr (0, [.null])]) rfl rfl
  refine gb_callv (va_runI (As := []) (rest := [.ref (b + 1), .ref (b + 0)]) ⟨hx, hb, hml, hown, hq⟩ (k_X0_init l D cT tt b1 (b + 1) (Nat.le_trans hb1 (Nat.le_add_right b 1))) (cwI 0 hq (gb_gI w_41) rfl rfl rfl (hq _ w_4) (hq _ w_250) (hq _ w_40) rfl (by decide +kernel) ⟨Nat.le_of_ble_eq_true rfl, Nat.le_of_ble_eq_true rfl⟩) (gb_preS hSt hS (fun q h => Nat.le_trans hb1 h) (show va_P D vwCl (gb_wl (b + 1) [.inr (0, [.null])]) H ∧ Array.size H = b + 1 + 1 from ⟨hPc, hz⟩)) rfl rfl hl.1 rfl (lv_room (Nat.le_of_ble_eq_true rfl)) dX8_init_9 ⟨Nat.le_of_ble_eq_true rfl, Nat.le_of_ble_eq_true rfl⟩) hS (fun q h => Nat.le_trans (Nat.le_add_right b 1) h) (fun q h => Nat.le_trans (Nat.le_add_right b 1) h) (fun H locs hY hk hS => ?_)
  have hP := gb_glue hP 1 (pre := [.inr (7, [.null, .null, .null, .null, .int 0, .null, .null, .null, .null, .null, .int 0])]) rfl rfl hk hY.1
  have hP : va_P D vwCl (gb_wl b [.inr (7, [.null, .null, .null, .null, .int 0, .null, .null, .null, .null, .null, .int 0]), .inr (0, [.ref (b + 2)]), .inl (cT 0, 58, .inl (upd (fun _ => 0) 2 (-1)))]) H := hP
  have hz : Array.size H = b + 3 := hY.2
  refine W.widen (k := 2) (n := 59) (Nat.le_of_ble_eq_true rfl) (Nat.le_of_ble_eq_true rfl) ?_
  refine gb_put (ci := 7) (v := (.ref (b + 1))) (ty := .object "GooseBorder$Border") (C := RX8) (T := TX8) (N := 11) hx hb hq i_X8 tyX8 tyX8_ok nmX8 hown hK hP (fun k _ => Nat.le_add_right b k) hS hz 0 rfl rfl 0 (by decide) (hq _ w_251) (fun _ h9 => h9) rfl (by decide +kernel) rfl (by first | rfl | decide) (Nat.le_of_ble_eq_true rfl) dX8_init_12 (fun H locs hP hz hS => ?_)
  have hP : va_P D vwCl (gb_wl b [.inr (7, [.ref (b + 1), .null, .null, .null, .int 0, .null, .null, .null, .null, .null, .int 0]), .inr (0, [.ref (b + 2)]), .inl (cT 0, 58, .inl (upd (fun _ => 0) 2 (-1)))]) H := hP
  refine lv_aload_n hx hb dX8_init_15 rfl (lv_at hl 0 rfl) ?_
  refine lv_bipush (v := 40) hx hb dX8_init_16 (by decide) ?_
  refine gb_newa (atype := .int) (a0 := (40, .inl (fun _ => 0))) hx hb (hq _ w_59) (ty := .int) rfl hK hP hS 3 hz rfl 0 rfl (fun h => h) (fun _ => rfl) (by decide) (by decide) (Nat.le_of_ble_eq_true rfl) (Nat.le_of_ble_eq_true rfl) (Nat.le_of_ble_eq_true rfl) dX8_init_18 (fun H hP hz hS => ?_)
  have hP : va_P D vwCl (gb_wl b [.inr (7, [.ref (b + 1), .null, .null, .null, .int 0, .null, .null, .null, .null, .null, .int 0]), .inr (0, [.ref (b + 2)]), .inl (cT 0, 58, .inl (upd (fun _ => 0) 2 (-1))), .inl (cT 0, 40, .inl (fun _ => 0))]) H := hP
  refine W.widen (k := 3) (n := 99) (Nat.le_of_ble_eq_true rfl) (Nat.le_of_ble_eq_true rfl) ?_
  refine gb_putF (ci := 7) (v := (.ref (b + 3))) (ty := .array .int) (C := RX8) (T := TX8) (N := 11) hx hb hq i_X8 tyX8 tyX8_ok nmX8 hown hK hP (fun k _ => Nat.le_add_right b k) hS hz 0 rfl rfl 2 (by decide) (hq _ w_253) (fun _ h9 => h9) rfl hin rfl (by decide +kernel) rfl rfl (Nat.le_of_ble_eq_true rfl) dX8_init_20 (fun H locs hP hz hS => ?_)
  have hP : va_P D vwCl (gb_wl b [.inr (7, [.ref (b + 1), .null, .ref (b + 3), .null, .int 0, .null, .null, .null, .null, .null, .int 0]), .inr (0, [.ref (b + 2)]), .inl (cT 0, 58, .inl (upd (fun _ => 0) 2 (-1))), .inl (cT 0, 40, .inl (fun _ => 0))]) H := hP
  refine lv_aload_n hx hb dX8_init_23 rfl (lv_at hl 0 rfl) ?_
  refine lv_iconst (v := 5) hx hb dX8_init_24 (by decide) ?_
  refine gb_newa (atype := .int) (a0 := (5, .inl (fun _ => 0))) hx hb (hq _ w_59) (ty := .int) rfl hK hP hS 4 hz rfl 0 rfl (fun h => h) (fun _ => rfl) (by decide) (by decide) (Nat.le_of_ble_eq_true rfl) (Nat.le_of_ble_eq_true rfl) (Nat.le_of_ble_eq_true rfl) dX8_init_25 (fun H hP hz hS => ?_)
  have hP : va_P D vwCl (gb_wl b [.inr (7, [.ref (b + 1), .null, .ref (b + 3), .null, .int 0, .null, .null, .null, .null, .null, .int 0]), .inr (0, [.ref (b + 2)]), .inl (cT 0, 58, .inl (upd (fun _ => 0) 2 (-1))), .inl (cT 0, 40, .inl (fun _ => 0)), .inl (cT 0, 5, .inl (fun _ => 0))]) H := hP
  refine W.widen (k := 4) (n := 104) (Nat.le_of_ble_eq_true rfl) (Nat.le_of_ble_eq_true rfl) ?_
  refine gb_putF (ci := 7) (v := (.ref (b + 4))) (ty := .array .int) (C := RX8) (T := TX8) (N := 11) hx hb hq i_X8 tyX8 tyX8_ok nmX8 hown hK hP (fun k _ => Nat.le_add_right b k) hS hz 0 rfl rfl 3 (by decide) (hq _ w_254) (fun _ h9 => h9) rfl hin rfl (by decide +kernel) rfl rfl (Nat.le_of_ble_eq_true rfl) dX8_init_27 (fun H locs hP hz hS => ?_)
  have hP : va_P D vwCl (gb_wl b [.inr (7, [.ref (b + 1), .null, .ref (b + 3), .ref (b + 4), .int 0, .null, .null, .null, .null, .null, .int 0]), .inr (0, [.ref (b + 2)]), .inl (cT 0, 58, .inl (upd (fun _ => 0) 2 (-1))), .inl (cT 0, 40, .inl (fun _ => 0)), .inl (cT 0, 5, .inl (fun _ => 0))]) H := hP
  refine lv_aload_n hx hb dX8_init_30 rfl (lv_at hl 0 rfl) ?_
  refine lv_bipush (v := 8) hx hb dX8_init_31 (by decide) ?_
  refine gb_newa (atype := .int) (a0 := (8, .inl (fun _ => 0))) hx hb (hq _ w_59) (ty := .int) rfl hK hP hS 5 hz rfl 0 rfl (fun h => h) (fun _ => rfl) (by decide) (by decide) (Nat.le_of_ble_eq_true rfl) (Nat.le_of_ble_eq_true rfl) (Nat.le_of_ble_eq_true rfl) dX8_init_33 (fun H hP hz hS => ?_)
  have hP : va_P D vwCl (gb_wl b [.inr (7, [.ref (b + 1), .null, .ref (b + 3), .ref (b + 4), .int 0, .null, .null, .null, .null, .null, .int 0]), .inr (0, [.ref (b + 2)]), .inl (cT 0, 58, .inl (upd (fun _ => 0) 2 (-1))), .inl (cT 0, 40, .inl (fun _ => 0)), .inl (cT 0, 5, .inl (fun _ => 0)), .inl (cT 0, 8, .inl (fun _ => 0))]) H := hP
  refine W.widen (k := 5) (n := 112) (Nat.le_of_ble_eq_true rfl) (Nat.le_of_ble_eq_true rfl) ?_
  refine gb_putF (ci := 7) (v := (.ref (b + 5))) (ty := .array .int) (C := RX8) (T := TX8) (N := 11) hx hb hq i_X8 tyX8 tyX8_ok nmX8 hown hK hP (fun k _ => Nat.le_add_right b k) hS hz 0 rfl rfl 5 (by decide) (hq _ w_256) (fun _ h9 => h9) rfl hin rfl (by decide +kernel) rfl rfl (Nat.le_of_ble_eq_true rfl) dX8_init_35 (fun H locs hP hz hS => ?_)
  have hP : va_P D vwCl (gb_wl b [.inr (7, [.ref (b + 1), .null, .ref (b + 3), .ref (b + 4), .int 0, .ref (b + 5), .null, .null, .null, .null, .int 0]), .inr (0, [.ref (b + 2)]), .inl (cT 0, 58, .inl (upd (fun _ => 0) 2 (-1))), .inl (cT 0, 40, .inl (fun _ => 0)), .inl (cT 0, 5, .inl (fun _ => 0)), .inl (cT 0, 8, .inl (fun _ => 0))]) H := hP
  refine lv_aload_n hx hb dX8_init_38 rfl (lv_at hl 0 rfl) ?_
  refine lv_iconst (v := 5) hx hb dX8_init_39 (by decide) ?_
  refine gb_newa (atype := .int) (a0 := (5, .inl (fun _ => 0))) hx hb (hq _ w_59) (ty := .int) rfl hK hP hS 6 hz rfl 0 rfl (fun h => h) (fun _ => rfl) (by decide) (by decide) (Nat.le_of_ble_eq_true rfl) (Nat.le_of_ble_eq_true rfl) (Nat.le_of_ble_eq_true rfl) dX8_init_40 (fun H hP hz hS => ?_)
  have hP : va_P D vwCl (gb_wl b [.inr (7, [.ref (b + 1), .null, .ref (b + 3), .ref (b + 4), .int 0, .ref (b + 5), .null, .null, .null, .null, .int 0]), .inr (0, [.ref (b + 2)]), .inl (cT 0, 58, .inl (upd (fun _ => 0) 2 (-1))), .inl (cT 0, 40, .inl (fun _ => 0)), .inl (cT 0, 5, .inl (fun _ => 0)), .inl (cT 0, 8, .inl (fun _ => 0)), .inl (cT 0, 5, .inl (fun _ => 0))]) H := hP
  refine W.widen (k := 6) (n := 117) (Nat.le_of_ble_eq_true rfl) (Nat.le_of_ble_eq_true rfl) ?_
  refine gb_putF (ci := 7) (v := (.ref (b + 6))) (ty := .array .int) (C := RX8) (T := TX8) (N := 11) hx hb hq i_X8 tyX8 tyX8_ok nmX8 hown hK hP (fun k _ => Nat.le_add_right b k) hS hz 0 rfl rfl 6 (by decide) (hq _ w_257) (fun _ h9 => h9) rfl hin rfl (by decide +kernel) rfl rfl (Nat.le_of_ble_eq_true rfl) dX8_init_42 (fun H locs hP hz hS => ?_)
  have hP : va_P D vwCl (gb_wl b [.inr (7, [.ref (b + 1), .null, .ref (b + 3), .ref (b + 4), .int 0, .ref (b + 5), .ref (b + 6), .null, .null, .null, .int 0]), .inr (0, [.ref (b + 2)]), .inl (cT 0, 58, .inl (upd (fun _ => 0) 2 (-1))), .inl (cT 0, 40, .inl (fun _ => 0)), .inl (cT 0, 5, .inl (fun _ => 0)), .inl (cT 0, 8, .inl (fun _ => 0)), .inl (cT 0, 5, .inl (fun _ => 0))]) H := hP
  refine lv_aload_n hx hb dX8_init_45 rfl (lv_at hl 0 rfl) ?_
  refine lv_iconst (v := 5) hx hb dX8_init_46 (by decide) ?_
  refine gb_newa (atype := .int) (a0 := (5, .inl (fun _ => 0))) hx hb (hq _ w_59) (ty := .int) rfl hK hP hS 7 hz rfl 0 rfl (fun h => h) (fun _ => rfl) (by decide) (by decide) (Nat.le_of_ble_eq_true rfl) (Nat.le_of_ble_eq_true rfl) (Nat.le_of_ble_eq_true rfl) dX8_init_47 (fun H hP hz hS => ?_)
  have hP : va_P D vwCl (gb_wl b [.inr (7, [.ref (b + 1), .null, .ref (b + 3), .ref (b + 4), .int 0, .ref (b + 5), .ref (b + 6), .null, .null, .null, .int 0]), .inr (0, [.ref (b + 2)]), .inl (cT 0, 58, .inl (upd (fun _ => 0) 2 (-1))), .inl (cT 0, 40, .inl (fun _ => 0)), .inl (cT 0, 5, .inl (fun _ => 0)), .inl (cT 0, 8, .inl (fun _ => 0)), .inl (cT 0, 5, .inl (fun _ => 0)), .inl (cT 0, 5, .inl (fun _ => 0))]) H := hP
  refine W.widen (k := 7) (n := 122) (Nat.le_of_ble_eq_true rfl) (Nat.le_of_ble_eq_true rfl) ?_
  refine gb_putF (ci := 7) (v := (.ref (b + 7))) (ty := .array .int) (C := RX8) (T := TX8) (N := 11) hx hb hq i_X8 tyX8 tyX8_ok nmX8 hown hK hP (fun k _ => Nat.le_add_right b k) hS hz 0 rfl rfl 7 (by decide) (hq _ w_258) (fun _ h9 => h9) rfl hin rfl (by decide +kernel) rfl rfl (Nat.le_of_ble_eq_true rfl) dX8_init_49 (fun H locs hP hz hS => ?_)
  have hP : va_P D vwCl (gb_wl b [.inr (7, [.ref (b + 1), .null, .ref (b + 3), .ref (b + 4), .int 0, .ref (b + 5), .ref (b + 6), .ref (b + 7), .null, .null, .int 0]), .inr (0, [.ref (b + 2)]), .inl (cT 0, 58, .inl (upd (fun _ => 0) 2 (-1))), .inl (cT 0, 40, .inl (fun _ => 0)), .inl (cT 0, 5, .inl (fun _ => 0)), .inl (cT 0, 8, .inl (fun _ => 0)), .inl (cT 0, 5, .inl (fun _ => 0)), .inl (cT 0, 5, .inl (fun _ => 0))]) H := hP
  refine lv_aload_n hx hb dX8_init_52 rfl (lv_at hl 0 rfl) ?_
  refine lv_bipush (v := 8) hx hb dX8_init_53 (by decide) ?_
  refine gb_newa (atype := .int) (a0 := (8, .inl (fun _ => 0))) hx hb (hq _ w_59) (ty := .int) rfl hK hP hS 8 hz rfl 0 rfl (fun h => h) (fun _ => rfl) (by decide) (by decide) (Nat.le_of_ble_eq_true rfl) (Nat.le_of_ble_eq_true rfl) (Nat.le_of_ble_eq_true rfl) dX8_init_55 (fun H hP hz hS => ?_)
  have hP : va_P D vwCl (gb_wl b [.inr (7, [.ref (b + 1), .null, .ref (b + 3), .ref (b + 4), .int 0, .ref (b + 5), .ref (b + 6), .ref (b + 7), .null, .null, .int 0]), .inr (0, [.ref (b + 2)]), .inl (cT 0, 58, .inl (upd (fun _ => 0) 2 (-1))), .inl (cT 0, 40, .inl (fun _ => 0)), .inl (cT 0, 5, .inl (fun _ => 0)), .inl (cT 0, 8, .inl (fun _ => 0)), .inl (cT 0, 5, .inl (fun _ => 0)), .inl (cT 0, 5, .inl (fun _ => 0)), .inl (cT 0, 8, .inl (fun _ => 0))]) H := hP
  refine W.widen (k := 8) (n := 130) (Nat.le_of_ble_eq_true rfl) (Nat.le_of_ble_eq_true rfl) ?_
  refine gb_putF (ci := 7) (v := (.ref (b + 8))) (ty := .array .int) (C := RX8) (T := TX8) (N := 11) hx hb hq i_X8 tyX8 tyX8_ok nmX8 hown hK hP (fun k _ => Nat.le_add_right b k) hS hz 0 rfl rfl 8 (by decide) (hq _ w_259) (fun _ h9 => h9) rfl hin rfl (by decide +kernel) rfl rfl (Nat.le_of_ble_eq_true rfl) dX8_init_57 (fun H locs hP hz hS => ?_)
  have hP : va_P D vwCl (gb_wl b [.inr (7, [.ref (b + 1), .null, .ref (b + 3), .ref (b + 4), .int 0, .ref (b + 5), .ref (b + 6), .ref (b + 7), .ref (b + 8), .null, .int 0]), .inr (0, [.ref (b + 2)]), .inl (cT 0, 58, .inl (upd (fun _ => 0) 2 (-1))), .inl (cT 0, 40, .inl (fun _ => 0)), .inl (cT 0, 5, .inl (fun _ => 0)), .inl (cT 0, 8, .inl (fun _ => 0)), .inl (cT 0, 5, .inl (fun _ => 0)), .inl (cT 0, 5, .inl (fun _ => 0)), .inl (cT 0, 8, .inl (fun _ => 0))]) H := hP
  refine lv_aload_n hx hb dX8_init_60 rfl (lv_at hl 0 rfl) ?_
  refine lv_iconst (v := 5) hx hb dX8_init_61 (by decide) ?_
  refine gb_newa (atype := .int) (a0 := (5, .inl (fun _ => 0))) hx hb (hq _ w_59) (ty := .int) rfl hK hP hS 9 hz rfl 0 rfl (fun h => h) (fun _ => rfl) (by decide) (by decide) (Nat.le_of_ble_eq_true rfl) (Nat.le_of_ble_eq_true rfl) (Nat.le_of_ble_eq_true rfl) dX8_init_62 (fun H hP hz hS => ?_)
  have hP : va_P D vwCl (gb_wl b [.inr (7, [.ref (b + 1), .null, .ref (b + 3), .ref (b + 4), .int 0, .ref (b + 5), .ref (b + 6), .ref (b + 7), .ref (b + 8), .null, .int 0]), .inr (0, [.ref (b + 2)]), .inl (cT 0, 58, .inl (upd (fun _ => 0) 2 (-1))), .inl (cT 0, 40, .inl (fun _ => 0)), .inl (cT 0, 5, .inl (fun _ => 0)), .inl (cT 0, 8, .inl (fun _ => 0)), .inl (cT 0, 5, .inl (fun _ => 0)), .inl (cT 0, 5, .inl (fun _ => 0)), .inl (cT 0, 8, .inl (fun _ => 0)), .inl (cT 0, 5, .inl (fun _ => 0))]) H := hP
  refine W.widen (k := 9) (n := 135) (Nat.le_of_ble_eq_true rfl) (Nat.le_of_ble_eq_true rfl) ?_
  refine gb_putF (ci := 7) (v := (.ref (b + 9))) (ty := .array .int) (C := RX8) (T := TX8) (N := 11) hx hb hq i_X8 tyX8 tyX8_ok nmX8 hown hK hP (fun k _ => Nat.le_add_right b k) hS hz 0 rfl rfl 9 (by decide) (hq _ w_261) (fun _ h9 => h9) rfl hin rfl (by decide +kernel) rfl rfl (Nat.le_of_ble_eq_true rfl) dX8_init_64 (fun H locs hP hz hS => ?_)
  have hP : va_P D vwCl (gb_wl b [.inr (7, [.ref (b + 1), .null, .ref (b + 3), .ref (b + 4), .int 0, .ref (b + 5), .ref (b + 6), .ref (b + 7), .ref (b + 8), .ref (b + 9), .int 0]), .inr (0, [.ref (b + 2)]), .inl (cT 0, 58, .inl (upd (fun _ => 0) 2 (-1))), .inl (cT 0, 40, .inl (fun _ => 0)), .inl (cT 0, 5, .inl (fun _ => 0)), .inl (cT 0, 8, .inl (fun _ => 0)), .inl (cT 0, 5, .inl (fun _ => 0)), .inl (cT 0, 5, .inl (fun _ => 0)), .inl (cT 0, 8, .inl (fun _ => 0)), .inl (cT 0, 5, .inl (fun _ => 0))]) H := hP
  exact W.vret hx hb hr (fun t ht hW => gb_rv ht ⟨hP, hz⟩ hS) hS.2.2 dX8_init_67
theorem dX2_init_0 : decode cX2_init 0 = .ok (.aload_n 0, 1) := by decide +kernel
theorem dX2_init_1 : decode cX2_init 1 = .ok (.invokespecial 3, 3) := by decide +kernel
theorem w_293 : (Cond.methodLink "GooseBorder$Flocks" (3 : Nat) ({ cls := "java/lang/Object", name := "<init>", desc := "()V" } : MethodName)) ∈ gb_wA := gb_t2 53 rfl rfl
theorem dX2_init_4 : decode cX2_init 4 = .ok (.aload_n 0, 1) := by decide +kernel
theorem dX2_init_5 : decode cX2_init 5 = .ok (.sipush 256, 3) := by decide +kernel
theorem dX2_init_8 : decode cX2_init 8 = .ok (.newarray .int, 2) := by decide +kernel
theorem dX2_init_10 : decode cX2_init 10 = .ok (.putfield 9, 3) := by decide +kernel
theorem w_301 : (Cond.laysFinal "GooseBorder$Flocks" "GooseBorder$Flocks" "sums" "[I") ∈ gb_wA := gb_t2 61 rfl rfl
theorem w_303 : (Cond.laysFinal "GooseBorder$Flocks" "GooseBorder$Flocks" "others" "[I") ∈ gb_wA := gb_t2 63 rfl rfl
theorem w_305 : (Cond.lays "GooseBorder$Flocks" "GooseBorder$Flocks" "ways" "[J") ∈ gb_wA := gb_t2 65 rfl rfl
theorem w_307 : (Cond.lays "GooseBorder$Flocks" "GooseBorder$Flocks" "next" "[J") ∈ gb_wA := gb_t2 67 rfl rfl
theorem w_309 : (Cond.lays "GooseBorder$Flocks" "GooseBorder$Flocks" "sets" "I") ∈ gb_wA := gb_t2 69 rfl rfl
theorem w_311 : (Cond.lays "GooseBorder$Flocks" "GooseBorder$Flocks" "apart" "I") ∈ gb_wA := gb_t2 71 rfl rfl
theorem i_X2 : ∀ w ∈ u_ws RX2 TX2 6, w ∈ gb_wA := (List.forall_mem_cons.mpr ⟨w_301, List.forall_mem_cons.mpr ⟨w_303, List.forall_mem_cons.mpr ⟨w_305, List.forall_mem_cons.mpr ⟨w_307, List.forall_mem_cons.mpr ⟨w_309, List.forall_mem_cons.mpr ⟨w_311, fun _ h => absurd h List.not_mem_nil⟩⟩⟩⟩⟩⟩ : ∀ w ∈ ([Cond.laysFinal "GooseBorder$Flocks" "GooseBorder$Flocks" "sums" "[I", Cond.laysFinal "GooseBorder$Flocks" "GooseBorder$Flocks" "others" "[I", Cond.lays "GooseBorder$Flocks" "GooseBorder$Flocks" "ways" "[J", Cond.lays "GooseBorder$Flocks" "GooseBorder$Flocks" "next" "[J", Cond.lays "GooseBorder$Flocks" "GooseBorder$Flocks" "sets" "I", Cond.lays "GooseBorder$Flocks" "GooseBorder$Flocks" "apart" "I"] : List Cond), w ∈ gb_wA)
theorem w_294 : (Cond.fieldLink "GooseBorder$Flocks" (9 : Nat) "GooseBorder$Flocks" "sums" "[I") ∈ gb_wA := gb_t2 54 rfl rfl
theorem dX2_init_13 : decode cX2_init 13 = .ok (.aload_n 0, 1) := by decide +kernel
theorem dX2_init_14 : decode cX2_init 14 = .ok (.sipush 256, 3) := by decide +kernel
theorem dX2_init_17 : decode cX2_init 17 = .ok (.newarray .int, 2) := by decide +kernel
theorem dX2_init_19 : decode cX2_init 19 = .ok (.putfield 15, 3) := by decide +kernel
theorem w_295 : (Cond.fieldLink "GooseBorder$Flocks" (15 : Nat) "GooseBorder$Flocks" "others" "[I") ∈ gb_wA := gb_t2 55 rfl rfl
theorem dX2_init_22 : decode cX2_init 22 = .ok (.aload_n 0, 1) := by decide +kernel
theorem dX2_init_23 : decode cX2_init 23 = .ok (.sipush 256, 3) := by decide +kernel
theorem dX2_init_26 : decode cX2_init 26 = .ok (.newarray .long, 2) := by decide +kernel
theorem w_314 : (Cond.arrayClass FieldType.long) ∈ gb_wA := gb_t2 74 rfl rfl
theorem dX2_init_28 : decode cX2_init 28 = .ok (.putfield 18, 3) := by decide +kernel
theorem w_296 : (Cond.fieldLink "GooseBorder$Flocks" (18 : Nat) "GooseBorder$Flocks" "ways" "[J") ∈ gb_wA := gb_t2 56 rfl rfl
theorem dX2_init_31 : decode cX2_init 31 = .ok (.aload_n 0, 1) := by decide +kernel
theorem dX2_init_32 : decode cX2_init 32 = .ok (.sipush 256, 3) := by decide +kernel
theorem dX2_init_35 : decode cX2_init 35 = .ok (.newarray .long, 2) := by decide +kernel
theorem dX2_init_37 : decode cX2_init 37 = .ok (.putfield 22, 3) := by decide +kernel
theorem w_297 : (Cond.fieldLink "GooseBorder$Flocks" (22 : Nat) "GooseBorder$Flocks" "next" "[J") ∈ gb_wA := gb_t2 57 rfl rfl
theorem dX2_init_40 : decode cX2_init 40 = .ok (.return_, 1) := by decide +kernel
set_option maxHeartbeats 4000000 in
set_option maxRecDepth 100000 in
theorem k_X2_init (l : Launch) (D : va_G) (cT : Nat → ClassId) (tt : Nat → Nat) (b1 b : Nat) (hb1 : b1 ≤ b) : Met l yX2_init (.code yX2_init cX2_init 1 none :: gb_wA) ({ frames := 1, cells := 4, slots := 1024, locals := 12 }) (gb_Pc D cT tt b1 [.ref (b + 0)] (fun h => va_P D vwCl (gb_wl b [.inr (2, [.null, .null, .null, .null, .int 0, .int 0])]) h ∧ Array.size h = b + 1)) (gb_Qv (fun h => va_P D vwCl (gb_wl b [.inr (2, [.ref (b + 1), .ref (b + 2), .ref (b + 3), .ref (b + 4), .int 0, .int 0]), .inl (cT 0, 256, .inl (fun _ => 0)), .inl (cT 0, 256, .inl (fun _ => 0)), .inl (cT 3, 256, .inr (.inl (fun _ => 0))), .inl (cT 3, 256, .inr (.inl (fun _ => 0)))]) h ∧ Array.size h = b + 5) (gb_ge b)) 4 1024 (gb_ge b) := by
  refine Met.ofW (cc := cX2_init) (maxL := 1) (ret := none) (by decide) rfl ?_
  intro p e s m args below meth c s₁ B hml hv
  obtain ⟨rfl, hSt, hP, hz⟩ := hv
  have hx := B.exec
  have hb := B.bytes
  have hr := B.returns
  have hts := atoms_spec (ws := .code yX2_init cX2_init 1 none :: gb_wA) B.pre
  have hq : ∀ w ∈ gb_wA, w.before _ s = true := fun w h => hts w (List.mem_cons_of_mem _ h)
  have hown : s.vm.findClass RX2 = some m.cls := findClass_of_methodNamed B.named
  have hlocks := B.notSynchronized
  have hin : meth.name = "<init>" := (name_of_methodNamed B.named B.method).1
  have hK := hSt.1
  have hS : va_S (gb_ge b) s.heap s.heap [] := va_S.rf
  have hl := lv_entry ([.ref (b + 0)]) (n := 1) (Nat.le_of_ble_eq_true rfl)
  rw [lg_entry_eq]
  generalize (lg_sl ([.ref (b + 0)]) ++ List.replicate (1 - (lg_sl ([.ref (b + 0)])).length) Slot.unset).toArray = ls at hl ⊢
  have hl : lv_has ls 1 [(0, .ref (b + 0))] := hl
  refine lv_aload_n hx hb dX2_init_0 rfl (lv_at hl 0 rfl) ?_
  refine W.objInit hx hb hown (hq _ w_293) (hq _ w_28) (hq _ w_29) rfl (by rw [hml]; exact hl.1) rfl dX2_init_1 (Nat.le_of_ble_eq_true rfl) (Nat.le_of_ble_eq_true rfl) ?_
  refine W.eq (g2 := F0 m 4 ls []) rfl ?_
  refine lv_aload_n hx hb dX2_init_4 rfl (lv_at hl 0 rfl) ?_
  refine lv_sipush (v := 256) hx hb dX2_init_5 (by decide) ?_
  refine gb_newa (atype := .int) (a0 := (256, .inl (fun _ => 0))) hx hb (hq _ w_59) (ty := .int) rfl hK hP hS 1 hz rfl 0 rfl (fun h => h) (fun _ => rfl) (by decide) (by decide) (Nat.le_of_ble_eq_true rfl) (Nat.le_of_ble_eq_true rfl) (Nat.le_of_ble_eq_true rfl) dX2_init_8 (fun H hP hz hS => ?_)
  have hP : va_P D vwCl (gb_wl b [.inr (2, [.null, .null, .null, .null, .int 0, .int 0]), .inl (cT 0, 256, .inl (fun _ => 0))]) H := hP
  refine W.widen (k := 1) (n := 256) (Nat.le_of_ble_eq_true rfl) (Nat.le_of_ble_eq_true rfl) ?_
  refine gb_putF (ci := 2) (v := (.ref (b + 1))) (ty := .array .int) (C := RX2) (T := TX2) (N := 6) hx hb hq i_X2 tyX2 tyX2_ok nmX2 hown hK hP (fun k _ => Nat.le_add_right b k) hS hz 0 rfl rfl 0 (by decide) (hq _ w_294) (fun _ h9 => h9) rfl hin rfl (by decide +kernel) rfl rfl (Nat.le_of_ble_eq_true rfl) dX2_init_10 (fun H locs hP hz hS => ?_)
  have hP : va_P D vwCl (gb_wl b [.inr (2, [.ref (b + 1), .null, .null, .null, .int 0, .int 0]), .inl (cT 0, 256, .inl (fun _ => 0))]) H := hP
  refine lv_aload_n hx hb dX2_init_13 rfl (lv_at hl 0 rfl) ?_
  refine lv_sipush (v := 256) hx hb dX2_init_14 (by decide) ?_
  refine gb_newa (atype := .int) (a0 := (256, .inl (fun _ => 0))) hx hb (hq _ w_59) (ty := .int) rfl hK hP hS 2 hz rfl 0 rfl (fun h => h) (fun _ => rfl) (by decide) (by decide) (Nat.le_of_ble_eq_true rfl) (Nat.le_of_ble_eq_true rfl) (Nat.le_of_ble_eq_true rfl) dX2_init_17 (fun H hP hz hS => ?_)
  have hP : va_P D vwCl (gb_wl b [.inr (2, [.ref (b + 1), .null, .null, .null, .int 0, .int 0]), .inl (cT 0, 256, .inl (fun _ => 0)), .inl (cT 0, 256, .inl (fun _ => 0))]) H := hP
  refine W.widen (k := 2) (n := 512) (Nat.le_of_ble_eq_true rfl) (Nat.le_of_ble_eq_true rfl) ?_
  refine gb_putF (ci := 2) (v := (.ref (b + 2))) (ty := .array .int) (C := RX2) (T := TX2) (N := 6) hx hb hq i_X2 tyX2 tyX2_ok nmX2 hown hK hP (fun k _ => Nat.le_add_right b k) hS hz 0 rfl rfl 1 (by decide) (hq _ w_295) (fun _ h9 => h9) rfl hin rfl (by decide +kernel) rfl rfl (Nat.le_of_ble_eq_true rfl) dX2_init_19 (fun H locs hP hz hS => ?_)
  have hP : va_P D vwCl (gb_wl b [.inr (2, [.ref (b + 1), .ref (b + 2), .null, .null, .int 0, .int 0]), .inl (cT 0, 256, .inl (fun _ => 0)), .inl (cT 0, 256, .inl (fun _ => 0))]) H := hP
  refine lv_aload_n hx hb dX2_init_22 rfl (lv_at hl 0 rfl) ?_
  refine lv_sipush (v := 256) hx hb dX2_init_23 (by decide) ?_
  refine gb_newa (atype := .long) (a0 := (256, .inr (.inl (fun _ => 0)))) hx hb (hq _ w_314) (ty := .long) rfl hK hP hS 3 hz rfl 3 rfl (fun h => h) (fun _ => rfl) (by decide) (by decide) (Nat.le_of_ble_eq_true rfl) (Nat.le_of_ble_eq_true rfl) (Nat.le_of_ble_eq_true rfl) dX2_init_26 (fun H hP hz hS => ?_)
  have hP : va_P D vwCl (gb_wl b [.inr (2, [.ref (b + 1), .ref (b + 2), .null, .null, .int 0, .int 0]), .inl (cT 0, 256, .inl (fun _ => 0)), .inl (cT 0, 256, .inl (fun _ => 0)), .inl (cT 3, 256, .inr (.inl (fun _ => 0)))]) H := hP
  refine W.widen (k := 3) (n := 768) (Nat.le_of_ble_eq_true rfl) (Nat.le_of_ble_eq_true rfl) ?_
  refine gb_put (ci := 2) (v := (.ref (b + 3))) (ty := .array .long) (C := RX2) (T := TX2) (N := 6) hx hb hq i_X2 tyX2 tyX2_ok nmX2 hown hK hP (fun k _ => Nat.le_add_right b k) hS hz 0 rfl rfl 2 (by decide) (hq _ w_296) (fun _ h9 => h9) rfl (by decide +kernel) rfl (by first | rfl | decide) (Nat.le_of_ble_eq_true rfl) dX2_init_28 (fun H locs hP hz hS => ?_)
  have hP : va_P D vwCl (gb_wl b [.inr (2, [.ref (b + 1), .ref (b + 2), .ref (b + 3), .null, .int 0, .int 0]), .inl (cT 0, 256, .inl (fun _ => 0)), .inl (cT 0, 256, .inl (fun _ => 0)), .inl (cT 3, 256, .inr (.inl (fun _ => 0)))]) H := hP
  refine lv_aload_n hx hb dX2_init_31 rfl (lv_at hl 0 rfl) ?_
  refine lv_sipush (v := 256) hx hb dX2_init_32 (by decide) ?_
  refine gb_newa (atype := .long) (a0 := (256, .inr (.inl (fun _ => 0)))) hx hb (hq _ w_314) (ty := .long) rfl hK hP hS 4 hz rfl 3 rfl (fun h => h) (fun _ => rfl) (by decide) (by decide) (Nat.le_of_ble_eq_true rfl) (Nat.le_of_ble_eq_true rfl) (Nat.le_of_ble_eq_true rfl) dX2_init_35 (fun H hP hz hS => ?_)
  have hP : va_P D vwCl (gb_wl b [.inr (2, [.ref (b + 1), .ref (b + 2), .ref (b + 3), .null, .int 0, .int 0]), .inl (cT 0, 256, .inl (fun _ => 0)), .inl (cT 0, 256, .inl (fun _ => 0)), .inl (cT 3, 256, .inr (.inl (fun _ => 0))), .inl (cT 3, 256, .inr (.inl (fun _ => 0)))]) H := hP
  refine W.widen (k := 4) (n := 1024) (Nat.le_of_ble_eq_true rfl) (Nat.le_of_ble_eq_true rfl) ?_
  refine gb_put (ci := 2) (v := (.ref (b + 4))) (ty := .array .long) (C := RX2) (T := TX2) (N := 6) hx hb hq i_X2 tyX2 tyX2_ok nmX2 hown hK hP (fun k _ => Nat.le_add_right b k) hS hz 0 rfl rfl 3 (by decide) (hq _ w_297) (fun _ h9 => h9) rfl (by decide +kernel) rfl (by first | rfl | decide) (Nat.le_of_ble_eq_true rfl) dX2_init_37 (fun H locs hP hz hS => ?_)
  have hP : va_P D vwCl (gb_wl b [.inr (2, [.ref (b + 1), .ref (b + 2), .ref (b + 3), .ref (b + 4), .int 0, .int 0]), .inl (cT 0, 256, .inl (fun _ => 0)), .inl (cT 0, 256, .inl (fun _ => 0)), .inl (cT 3, 256, .inr (.inl (fun _ => 0))), .inl (cT 3, 256, .inr (.inl (fun _ => 0)))]) H := hP
  exact W.vret hx hb hr (fun t ht hW => gb_rv ht ⟨hP, hz⟩ hS) hS.2.2 dX2_init_40
end
section
theorem dX11_init_0 : decode cX11_init 0 = .ok (.aload_n 0, 1) := by decide +kernel
theorem dX11_init_1 : decode cX11_init 1 = .ok (.invokespecial 3, 3) := by decide +kernel
theorem w_27 : (Cond.methodLink "GooseBorder" (3 : Nat) ({ cls := "java/lang/Object", name := "<init>", desc := "()V" } : MethodName)) ∈ gb_wA := gb_t1 27 rfl rfl
theorem dX11_init_4 : decode cX11_init 4 = .ok (.aload_n 0, 1) := by decide +kernel
theorem dX11_init_5 : decode cX11_init 5 = .ok (.new 9, 3) := by decide +kernel
theorem w_30 : (Cond.classLink "GooseBorder" (9 : Nat) "GooseBorder$Told") ∈ gb_wA := gb_t1 30 rfl rfl
theorem w_31 : (Cond.instantiable "GooseBorder$Told" (9 : Nat)) ∈ gb_wA := gb_t1 31 rfl rfl
theorem w_2 : (Cond.initialized "GooseBorder$Told") ∈ gb_wA := gb_t1 2 rfl rfl
theorem dX11_init_8 : decode cX11_init 8 = .ok (.dup, 1) := by decide +kernel
theorem dX11_init_9 : decode cX11_init 9 = .ok (.invokespecial 11, 3) := by decide +kernel
theorem w_34 : (Cond.code ({ cls := "GooseBorder$Told", name := "<init>", desc := "()V" } : MethodName) prog_12_method_1_code (1 : Nat) (Option.none : Option FieldType)) ∈ gb_wA := gb_t1 34 rfl rfl
theorem w_33 : (Cond.instanceMethod ({ cls := "GooseBorder$Told", name := "<init>", desc := "()V" } : MethodName)) ∈ gb_wA := gb_t1 33 rfl rfl
theorem dX11_init_12 : decode cX11_init 12 = .ok (.putfield 12, 3) := by decide +kernel
theorem w_325 : (Cond.laysFinal "GooseBorder" "GooseBorder" "now" "LGooseBorder$Told;") ∈ gb_wA := gb_t2 85 rfl rfl
theorem w_327 : (Cond.laysFinal "GooseBorder" "GooseBorder" "images" "[LGooseBorder$Told;") ∈ gb_wA := gb_t2 87 rfl rfl
theorem w_329 : (Cond.laysFinal "GooseBorder" "GooseBorder" "kept" "[Z") ∈ gb_wA := gb_t2 89 rfl rfl
theorem w_331 : (Cond.laysFinal "GooseBorder" "GooseBorder" "drafts" "[LGooseBorder$Sheet;") ∈ gb_wA := gb_t2 91 rfl rfl
theorem w_333 : (Cond.laysFinal "GooseBorder" "GooseBorder" "changed" "LGooseBorder$Night;") ∈ gb_wA := gb_t2 93 rfl rfl
theorem w_335 : (Cond.laysFinal "GooseBorder" "GooseBorder" "reader" "LGooseBorder$Reader;") ∈ gb_wA := gb_t2 95 rfl rfl
theorem w_337 : (Cond.laysFinal "GooseBorder" "GooseBorder" "play" "LGooseBorder$Play;") ∈ gb_wA := gb_t2 97 rfl rfl
theorem w_339 : (Cond.laysFinal "GooseBorder" "GooseBorder" "sharing" "LGooseBorder$Sharing;") ∈ gb_wA := gb_t2 99 rfl rfl
theorem w_341 : (Cond.laysFinal "GooseBorder" "GooseBorder" "flocks" "LGooseBorder$Flocks;") ∈ gb_wA := gb_t2 101 rfl rfl
theorem w_343 : (Cond.lays "GooseBorder" "GooseBorder" "chance" "I") ∈ gb_wA := gb_t2 103 rfl rfl
theorem i_X11 : ∀ w ∈ u_ws RX11 TX11 10, w ∈ gb_wA := (List.forall_mem_cons.mpr ⟨w_325, List.forall_mem_cons.mpr ⟨w_327, List.forall_mem_cons.mpr ⟨w_329, List.forall_mem_cons.mpr ⟨w_331, List.forall_mem_cons.mpr ⟨w_333, List.forall_mem_cons.mpr ⟨w_335, List.forall_mem_cons.mpr ⟨w_337, List.forall_mem_cons.mpr ⟨w_339, List.forall_mem_cons.mpr ⟨w_341, List.forall_mem_cons.mpr ⟨w_343, fun _ h => absurd h List.not_mem_nil⟩⟩⟩⟩⟩⟩⟩⟩⟩⟩ : ∀ w ∈ ([Cond.laysFinal "GooseBorder" "GooseBorder" "now" "LGooseBorder$Told;", Cond.laysFinal "GooseBorder" "GooseBorder" "images" "[LGooseBorder$Told;", Cond.laysFinal "GooseBorder" "GooseBorder" "kept" "[Z", Cond.laysFinal "GooseBorder" "GooseBorder" "drafts" "[LGooseBorder$Sheet;", Cond.laysFinal "GooseBorder" "GooseBorder" "changed" "LGooseBorder$Night;", Cond.laysFinal "GooseBorder" "GooseBorder" "reader" "LGooseBorder$Reader;", Cond.laysFinal "GooseBorder" "GooseBorder" "play" "LGooseBorder$Play;", Cond.laysFinal "GooseBorder" "GooseBorder" "sharing" "LGooseBorder$Sharing;", Cond.laysFinal "GooseBorder" "GooseBorder" "flocks" "LGooseBorder$Flocks;", Cond.lays "GooseBorder" "GooseBorder" "chance" "I"] : List Cond), w ∈ gb_wA)
theorem w_315 : (Cond.fieldLink "GooseBorder" (12 : Nat) "GooseBorder" "now" "LGooseBorder$Told;") ∈ gb_wA := gb_t2 75 rfl rfl
theorem dX11_init_15 : decode cX11_init 15 = .ok (.aload_n 0, 1) := by decide +kernel
theorem dX11_init_16 : decode cX11_init 16 = .ok (.iconst 3, 1) := by decide +kernel
theorem dX11_init_17 : decode cX11_init 17 = .ok (.anewarray 9, 3) := by decide +kernel
theorem dX11_init_20 : decode cX11_init 20 = .ok (.dup, 1) := by decide +kernel
theorem dX11_init_21 : decode cX11_init 21 = .ok (.iconst 0, 1) := by decide +kernel
theorem dX11_init_22 : decode cX11_init 22 = .ok (.new 9, 3) := by decide +kernel
theorem dX11_init_25 : decode cX11_init 25 = .ok (.dup, 1) := by decide +kernel
theorem dX11_init_26 : decode cX11_init 26 = .ok (.invokespecial 11, 3) := by decide +kernel
theorem dX11_init_29 : decode cX11_init 29 = .ok (.aastore, 1) := by decide +kernel
theorem dX11_init_30 : decode cX11_init 30 = .ok (.dup, 1) := by decide +kernel
theorem dX11_init_31 : decode cX11_init 31 = .ok (.iconst 1, 1) := by decide +kernel
theorem dX11_init_32 : decode cX11_init 32 = .ok (.new 9, 3) := by decide +kernel
theorem dX11_init_35 : decode cX11_init 35 = .ok (.dup, 1) := by decide +kernel
theorem dX11_init_36 : decode cX11_init 36 = .ok (.invokespecial 11, 3) := by decide +kernel
theorem dX11_init_39 : decode cX11_init 39 = .ok (.aastore, 1) := by decide +kernel
theorem dX11_init_40 : decode cX11_init 40 = .ok (.dup, 1) := by decide +kernel
theorem dX11_init_41 : decode cX11_init 41 = .ok (.iconst 2, 1) := by decide +kernel
theorem dX11_init_42 : decode cX11_init 42 = .ok (.new 9, 3) := by decide +kernel
theorem dX11_init_45 : decode cX11_init 45 = .ok (.dup, 1) := by decide +kernel
theorem dX11_init_46 : decode cX11_init 46 = .ok (.invokespecial 11, 3) := by decide +kernel
theorem dX11_init_49 : decode cX11_init 49 = .ok (.aastore, 1) := by decide +kernel
theorem dX11_init_50 : decode cX11_init 50 = .ok (.putfield 16, 3) := by decide +kernel
theorem w_316 : (Cond.fieldLink "GooseBorder" (16 : Nat) "GooseBorder" "images" "[LGooseBorder$Told;") ∈ gb_wA := gb_t2 76 rfl rfl
theorem dX11_init_53 : decode cX11_init 53 = .ok (.aload_n 0, 1) := by decide +kernel
theorem dX11_init_54 : decode cX11_init 54 = .ok (.iconst 3, 1) := by decide +kernel
theorem dX11_init_55 : decode cX11_init 55 = .ok (.newarray .boolean, 2) := by decide +kernel
theorem w_188 : (Cond.arrayClass FieldType.boolean) ∈ gb_wA := gb_t1 188 rfl rfl
theorem dX11_init_57 : decode cX11_init 57 = .ok (.putfield 20, 3) := by decide +kernel
theorem w_317 : (Cond.fieldLink "GooseBorder" (20 : Nat) "GooseBorder" "kept" "[Z") ∈ gb_wA := gb_t2 77 rfl rfl
theorem dX11_init_60 : decode cX11_init 60 = .ok (.aload_n 0, 1) := by decide +kernel
theorem dX11_init_61 : decode cX11_init 61 = .ok (.iconst 4, 1) := by decide +kernel
theorem dX11_init_62 : decode cX11_init 62 = .ok (.anewarray 24, 3) := by decide +kernel
theorem w_151 : (Cond.classLink "GooseBorder" (24 : Nat) "GooseBorder$Sheet") ∈ gb_wA := gb_t1 151 rfl rfl
theorem dX11_init_65 : decode cX11_init 65 = .ok (.dup, 1) := by decide +kernel
theorem dX11_init_66 : decode cX11_init 66 = .ok (.iconst 0, 1) := by decide +kernel
theorem dX11_init_67 : decode cX11_init 67 = .ok (.new 26, 3) := by decide +kernel
theorem w_153 : (Cond.classLink "GooseBorder" (26 : Nat) "GooseBorder$Border") ∈ gb_wA := gb_t1 153 rfl rfl
theorem dX11_init_70 : decode cX11_init 70 = .ok (.dup, 1) := by decide +kernel
theorem dX11_init_71 : decode cX11_init 71 = .ok (.invokespecial 28, 3) := by decide +kernel
theorem w_154 : (Cond.methodLink "GooseBorder" (28 : Nat) ({ cls := "GooseBorder$Border", name := "<init>", desc := "()V" } : MethodName)) ∈ gb_wA := gb_t1 154 rfl rfl
theorem dX11_init_74 : decode cX11_init 74 = .ok (.aastore, 1) := by decide +kernel
theorem dX11_init_75 : decode cX11_init 75 = .ok (.dup, 1) := by decide +kernel
theorem dX11_init_76 : decode cX11_init 76 = .ok (.iconst 1, 1) := by decide +kernel
theorem dX11_init_77 : decode cX11_init 77 = .ok (.new 29, 3) := by decide +kernel
theorem w_155 : (Cond.classLink "GooseBorder" (29 : Nat) "GooseBorder$Night") ∈ gb_wA := gb_t1 155 rfl rfl
theorem dX11_init_80 : decode cX11_init 80 = .ok (.dup, 1) := by decide +kernel
theorem dX11_init_81 : decode cX11_init 81 = .ok (.invokespecial 31, 3) := by decide +kernel
theorem w_156 : (Cond.methodLink "GooseBorder" (31 : Nat) ({ cls := "GooseBorder$Night", name := "<init>", desc := "()V" } : MethodName)) ∈ gb_wA := gb_t1 156 rfl rfl
theorem dX11_init_84 : decode cX11_init 84 = .ok (.aastore, 1) := by decide +kernel
theorem dX11_init_85 : decode cX11_init 85 = .ok (.dup, 1) := by decide +kernel
theorem dX11_init_86 : decode cX11_init 86 = .ok (.iconst 2, 1) := by decide +kernel
theorem dX11_init_87 : decode cX11_init 87 = .ok (.new 32, 3) := by decide +kernel
theorem w_157 : (Cond.classLink "GooseBorder" (32 : Nat) "GooseBorder$Law") ∈ gb_wA := gb_t1 157 rfl rfl
theorem dX11_init_90 : decode cX11_init 90 = .ok (.dup, 1) := by decide +kernel
theorem dX11_init_91 : decode cX11_init 91 = .ok (.invokespecial 34, 3) := by decide +kernel
theorem w_158 : (Cond.methodLink "GooseBorder" (34 : Nat) ({ cls := "GooseBorder$Law", name := "<init>", desc := "()V" } : MethodName)) ∈ gb_wA := gb_t1 158 rfl rfl
theorem dX11_init_94 : decode cX11_init 94 = .ok (.aastore, 1) := by decide +kernel
theorem dX11_init_95 : decode cX11_init 95 = .ok (.dup, 1) := by decide +kernel
theorem dX11_init_96 : decode cX11_init 96 = .ok (.iconst 3, 1) := by decide +kernel
theorem dX11_init_97 : decode cX11_init 97 = .ok (.new 35, 3) := by decide +kernel
theorem w_159 : (Cond.classLink "GooseBorder" (35 : Nat) "GooseBorder$Dawn") ∈ gb_wA := gb_t1 159 rfl rfl
theorem dX11_init_100 : decode cX11_init 100 = .ok (.dup, 1) := by decide +kernel
theorem dX11_init_101 : decode cX11_init 101 = .ok (.invokespecial 37, 3) := by decide +kernel
theorem w_160 : (Cond.methodLink "GooseBorder" (37 : Nat) ({ cls := "GooseBorder$Dawn", name := "<init>", desc := "()V" } : MethodName)) ∈ gb_wA := gb_t1 160 rfl rfl
theorem dX11_init_104 : decode cX11_init 104 = .ok (.aastore, 1) := by decide +kernel
theorem dX11_init_105 : decode cX11_init 105 = .ok (.putfield 38, 3) := by decide +kernel
theorem w_318 : (Cond.fieldLink "GooseBorder" (38 : Nat) "GooseBorder" "drafts" "[LGooseBorder$Sheet;") ∈ gb_wA := gb_t2 78 rfl rfl
theorem dX11_init_108 : decode cX11_init 108 = .ok (.aload_n 0, 1) := by decide +kernel
theorem dX11_init_109 : decode cX11_init 109 = .ok (.new 29, 3) := by decide +kernel
theorem dX11_init_112 : decode cX11_init 112 = .ok (.dup, 1) := by decide +kernel
theorem dX11_init_113 : decode cX11_init 113 = .ok (.invokespecial 31, 3) := by decide +kernel
theorem dX11_init_116 : decode cX11_init 116 = .ok (.putfield 42, 3) := by decide +kernel
theorem w_319 : (Cond.fieldLink "GooseBorder" (42 : Nat) "GooseBorder" "changed" "LGooseBorder$Night;") ∈ gb_wA := gb_t2 79 rfl rfl
theorem dX11_init_119 : decode cX11_init 119 = .ok (.aload_n 0, 1) := by decide +kernel
theorem dX11_init_120 : decode cX11_init 120 = .ok (.new 46, 3) := by decide +kernel
theorem w_161 : (Cond.classLink "GooseBorder" (46 : Nat) "GooseBorder$Reader") ∈ gb_wA := gb_t1 161 rfl rfl
theorem w_162 : (Cond.instantiable "GooseBorder$Reader" (6 : Nat)) ∈ gb_wA := gb_t1 162 rfl rfl
theorem w_10 : (Cond.initialized "GooseBorder$Reader") ∈ gb_wA := gb_t1 10 rfl rfl
theorem dX11_init_123 : decode cX11_init 123 = .ok (.dup, 1) := by decide +kernel
theorem dX11_init_124 : decode cX11_init 124 = .ok (.invokespecial 48, 3) := by decide +kernel
theorem w_165 : (Cond.code ({ cls := "GooseBorder$Reader", name := "<init>", desc := "()V" } : MethodName) prog_9_method_1_code (1 : Nat) (Option.none : Option FieldType)) ∈ gb_wA := gb_t1 165 rfl rfl
theorem w_164 : (Cond.instanceMethod ({ cls := "GooseBorder$Reader", name := "<init>", desc := "()V" } : MethodName)) ∈ gb_wA := gb_t1 164 rfl rfl
theorem dX11_init_127 : decode cX11_init 127 = .ok (.putfield 49, 3) := by decide +kernel
theorem w_320 : (Cond.fieldLink "GooseBorder" (49 : Nat) "GooseBorder" "reader" "LGooseBorder$Reader;") ∈ gb_wA := gb_t2 80 rfl rfl
theorem dX11_init_130 : decode cX11_init 130 = .ok (.aload_n 0, 1) := by decide +kernel
theorem dX11_init_131 : decode cX11_init 131 = .ok (.new 53, 3) := by decide +kernel
theorem w_189 : (Cond.classLink "GooseBorder" (53 : Nat) "GooseBorder$Play") ∈ gb_wA := gb_t1 189 rfl rfl
theorem w_190 : (Cond.instantiable "GooseBorder$Play" (12 : Nat)) ∈ gb_wA := gb_t1 190 rfl rfl
theorem w_11 : (Cond.initialized "GooseBorder$Play") ∈ gb_wA := gb_t1 11 rfl rfl
theorem dX11_init_134 : decode cX11_init 134 = .ok (.dup, 1) := by decide +kernel
theorem dX11_init_135 : decode cX11_init 135 = .ok (.invokespecial 55, 3) := by decide +kernel
theorem w_193 : (Cond.code ({ cls := "GooseBorder$Play", name := "<init>", desc := "()V" } : MethodName) prog_8_method_1_code (1 : Nat) (Option.none : Option FieldType)) ∈ gb_wA := gb_t1 193 rfl rfl
theorem w_192 : (Cond.instanceMethod ({ cls := "GooseBorder$Play", name := "<init>", desc := "()V" } : MethodName)) ∈ gb_wA := gb_t1 192 rfl rfl
theorem dX11_init_138 : decode cX11_init 138 = .ok (.putfield 56, 3) := by decide +kernel
theorem w_321 : (Cond.fieldLink "GooseBorder" (56 : Nat) "GooseBorder" "play" "LGooseBorder$Play;") ∈ gb_wA := gb_t2 81 rfl rfl
theorem dX11_init_141 : decode cX11_init 141 = .ok (.aload_n 0, 1) := by decide +kernel
theorem dX11_init_142 : decode cX11_init 142 = .ok (.new 60, 3) := by decide +kernel
theorem w_243 : (Cond.classLink "GooseBorder" (60 : Nat) "GooseBorder$Sharing") ∈ gb_wA := gb_t2 3 rfl rfl
theorem w_244 : (Cond.instantiable "GooseBorder$Sharing" (11 : Nat)) ∈ gb_wA := gb_t2 4 rfl rfl
theorem w_12 : (Cond.initialized "GooseBorder$Sharing") ∈ gb_wA := gb_t1 12 rfl rfl
theorem dX11_init_145 : decode cX11_init 145 = .ok (.dup, 1) := by decide +kernel
theorem dX11_init_146 : decode cX11_init 146 = .ok (.invokespecial 62, 3) := by decide +kernel
theorem w_247 : (Cond.code ({ cls := "GooseBorder$Sharing", name := "<init>", desc := "()V" } : MethodName) prog_10_method_1_code (1 : Nat) (Option.none : Option FieldType)) ∈ gb_wA := gb_t2 7 rfl rfl
theorem w_246 : (Cond.instanceMethod ({ cls := "GooseBorder$Sharing", name := "<init>", desc := "()V" } : MethodName)) ∈ gb_wA := gb_t2 6 rfl rfl
theorem dX11_init_149 : decode cX11_init 149 = .ok (.putfield 63, 3) := by decide +kernel
theorem w_322 : (Cond.fieldLink "GooseBorder" (63 : Nat) "GooseBorder" "sharing" "LGooseBorder$Sharing;") ∈ gb_wA := gb_t2 82 rfl rfl
theorem dX11_init_152 : decode cX11_init 152 = .ok (.aload_n 0, 1) := by decide +kernel
theorem dX11_init_153 : decode cX11_init 153 = .ok (.new 67, 3) := by decide +kernel
theorem w_288 : (Cond.classLink "GooseBorder" (67 : Nat) "GooseBorder$Flocks") ∈ gb_wA := gb_t2 48 rfl rfl
theorem w_289 : (Cond.instantiable "GooseBorder$Flocks" (6 : Nat)) ∈ gb_wA := gb_t2 49 rfl rfl
theorem w_13 : (Cond.initialized "GooseBorder$Flocks") ∈ gb_wA := gb_t1 13 rfl rfl
theorem dX11_init_156 : decode cX11_init 156 = .ok (.dup, 1) := by decide +kernel
theorem dX11_init_157 : decode cX11_init 157 = .ok (.invokespecial 69, 3) := by decide +kernel
theorem w_292 : (Cond.code ({ cls := "GooseBorder$Flocks", name := "<init>", desc := "()V" } : MethodName) prog_4_method_1_code (1 : Nat) (Option.none : Option FieldType)) ∈ gb_wA := gb_t2 52 rfl rfl
theorem w_291 : (Cond.instanceMethod ({ cls := "GooseBorder$Flocks", name := "<init>", desc := "()V" } : MethodName)) ∈ gb_wA := gb_t2 51 rfl rfl
theorem dX11_init_160 : decode cX11_init 160 = .ok (.putfield 70, 3) := by decide +kernel
theorem w_323 : (Cond.fieldLink "GooseBorder" (70 : Nat) "GooseBorder" "flocks" "LGooseBorder$Flocks;") ∈ gb_wA := gb_t2 83 rfl rfl
theorem dX11_init_163 : decode cX11_init 163 = .ok (.return_, 1) := by decide +kernel
set_option maxHeartbeats 4000000 in
set_option maxRecDepth 100000 in
theorem k_X11_init (l : Launch) (D : va_G) (cT : Nat → ClassId) (tt : Nat → Nat) (b1 b : Nat) (hb1 : b1 ≤ b) : Met l yX11_init (.code yX11_init cX11_init 1 none :: gb_wA) ({ frames := 5, cells := 134, slots := 5821, locals := 98 }) (gb_Pc D cT tt b1 [.ref (b + 0)] (fun h => va_P D vwCl (gb_wl b [.inr (9, [.null, .null, .null, .null, .null, .null, .null, .null, .null, .int 0])]) h ∧ Array.size h = b + 1)) (gb_Qv (fun h => va_P D vwCl (gb_wl b [.inr (9, [.ref (b + 1), .ref (b + 24), .ref (b + 94), .ref (b + 95), .ref (b + 104), .ref (b + 106), .ref (b + 109), .ref (b + 120), .ref (b + 130), .int 0]), .inr (8, [.ref (b + 2), .ref (b + 7), .ref (b + 12), .ref (b + 17), .ref (b + 22), .ref (b + 23), .int 0, .int 0, .int (-1)]), .inl (cT 4, 2, .inr (.inr (.inr (.inr (va_up (va_up (fun _ => none) 0 (some (b + 3))) 1 (some (b + 5))))))), .inr (0, [.ref (b + 4)]), .inl (cT 0, 58, .inl (upd (fun _ => 0) 2 (-1))), .inr (0, [.ref (b + 6)]), .inl (cT 0, 58, .inl (upd (fun _ => 0) 2 (-1))), .inl (cT 5, 2, .inr (.inr (.inr (.inr (va_up (va_up (fun _ => none) 0 (some (b + 8))) 1 (some (b + 10))))))), .inr (4, [.int 24, .int 3, .int 3, .ref (b + 9)]), .inl (cT 0, 97, .inl (fun _ => 0)), .inr (4, [.int 24, .int 3, .int 3, .ref (b + 11)]), .inl (cT 0, 97, .inl (fun _ => 0)), .inl (cT 6, 2, .inr (.inr (.inr (.inr (va_up (va_up (fun _ => none) 0 (some (b + 13))) 1 (some (b + 15))))))), .inr (3, [.int 8, .int 2, .int 12, .ref (b + 14)]), .inl (cT 0, 25, .inl (fun _ => 0)), .inr (3, [.int 8, .int 2, .int 12, .ref (b + 16)]), .inl (cT 0, 25, .inl (fun _ => 0)), .inl (cT 7, 2, .inr (.inr (.inr (.inr (va_up (va_up (fun _ => none) 0 (some (b + 18))) 1 (some (b + 20))))))), .inr (1, [.int 5, .int 2, .int 17, .ref (b + 19)]), .inl (cT 0, 16, .inl (fun _ => 0)), .inr (1, [.int 5, .int 2, .int 17, .ref (b + 21)]), .inl (cT 0, 16, .inl (fun _ => 0)), .inl (cT 0, 4, .inl (fun _ => 0)), .inl (cT 1, 600, .inl (fun _ => 0)), .inl (cT 8, 3, .inr (.inr (.inr (.inr (va_up (va_up (va_up (fun _ => none) 0 (some (b + 25))) 1 (some (b + 48))) 2 (some (b + 71))))))), .inr (8, [.ref (b + 26), .ref (b + 31), .ref (b + 36), .ref (b + 41), .ref (b + 46), .ref (b + 47), .int 0, .int 0, .int (-1)]), .inl (cT 4, 2, .inr (.inr (.inr (.inr (va_up (va_up (fun _ => none) 0 (some (b + 27))) 1 (some (b + 29))))))), .inr (0, [.ref (b + 28)]), .inl (cT 0, 58, .inl (upd (fun _ => 0) 2 (-1))), .inr (0, [.ref (b + 30)]), .inl (cT 0, 58, .inl (upd (fun _ => 0) 2 (-1))), .inl (cT 5, 2, .inr (.inr (.inr (.inr (va_up (va_up (fun _ => none) 0 (some (b + 32))) 1 (some (b + 34))))))), .inr (4, [.int 24, .int 3, .int 3, .ref (b + 33)]), .inl (cT 0, 97, .inl (fun _ => 0)), .inr (4, [.int 24, .int 3, .int 3, .ref (b + 35)]), .inl (cT 0, 97, .inl (fun _ => 0)), .inl (cT 6, 2, .inr (.inr (.inr (.inr (va_up (va_up (fun _ => none) 0 (some (b + 37))) 1 (some (b + 39))))))), .inr (3, [.int 8, .int 2, .int 12, .ref (b + 38)]), .inl (cT 0, 25, .inl (fun _ => 0)), .inr (3, [.int 8, .int 2, .int 12, .ref (b + 40)]), .inl (cT 0, 25, .inl (fun _ => 0)), .inl (cT 7, 2, .inr (.inr (.inr (.inr (va_up (va_up (fun _ => none) 0 (some (b + 42))) 1 (some (b + 44))))))), .inr (1, [.int 5, .int 2, .int 17, .ref (b + 43)]), .inl (cT 0, 16, .inl (fun _ => 0)), .inr (1, [.int 5, .int 2, .int 17, .ref (b + 45)]), .inl (cT 0, 16, .inl (fun _ => 0)), .inl (cT 0, 4, .inl (fun _ => 0)), .inl (cT 1, 600, .inl (fun _ => 0)), .inr (8, [.ref (b + 49), .ref (b + 54), .ref (b + 59), .ref (b + 64), .ref (b + 69), .ref (b + 70), .int 0, .int 0, .int (-1)]), .inl (cT 4, 2, .inr (.inr (.inr (.inr (va_up (va_up (fun _ => none) 0 (some (b + 50))) 1 (some (b + 52))))))), .inr (0, [.ref (b + 51)]), .inl (cT 0, 58, .inl (upd (fun _ => 0) 2 (-1))), .inr (0, [.ref (b + 53)]), .inl (cT 0, 58, .inl (upd (fun _ => 0) 2 (-1))), .inl (cT 5, 2, .inr (.inr (.inr (.inr (va_up (va_up (fun _ => none) 0 (some (b + 55))) 1 (some (b + 57))))))), .inr (4, [.int 24, .int 3, .int 3, .ref (b + 56)]), .inl (cT 0, 97, .inl (fun _ => 0)), .inr (4, [.int 24, .int 3, .int 3, .ref (b + 58)]), .inl (cT 0, 97, .inl (fun _ => 0)), .inl (cT 6, 2, .inr (.inr (.inr (.inr (va_up (va_up (fun _ => none) 0 (some (b + 60))) 1 (some (b + 62))))))), .inr (3, [.int 8, .int 2, .int 12, .ref (b + 61)]), .inl (cT 0, 25, .inl (fun _ => 0)), .inr (3, [.int 8, .int 2, .int 12, .ref (b + 63)]), .inl (cT 0, 25, .inl (fun _ => 0)), .inl (cT 7, 2, .inr (.inr (.inr (.inr (va_up (va_up (fun _ => none) 0 (some (b + 65))) 1 (some (b + 67))))))), .inr (1, [.int 5, .int 2, .int 17, .ref (b + 66)]), .inl (cT 0, 16, .inl (fun _ => 0)), .inr (1, [.int 5, .int 2, .int 17, .ref (b + 68)]), .inl (cT 0, 16, .inl (fun _ => 0)), .inl (cT 0, 4, .inl (fun _ => 0)), .inl (cT 1, 600, .inl (fun _ => 0)), .inr (8, [.ref (b + 72), .ref (b + 77), .ref (b + 82), .ref (b + 87), .ref (b + 92), .ref (b + 93), .int 0, .int 0, .int (-1)]), .inl (cT 4, 2, .inr (.inr (.inr (.inr (va_up (va_up (fun _ => none) 0 (some (b + 73))) 1 (some (b + 75))))))), .inr (0, [.ref (b + 74)]), .inl (cT 0, 58, .inl (upd (fun _ => 0) 2 (-1))), .inr (0, [.ref (b + 76)]), .inl (cT 0, 58, .inl (upd (fun _ => 0) 2 (-1))), .inl (cT 5, 2, .inr (.inr (.inr (.inr (va_up (va_up (fun _ => none) 0 (some (b + 78))) 1 (some (b + 80))))))), .inr (4, [.int 24, .int 3, .int 3, .ref (b + 79)]), .inl (cT 0, 97, .inl (fun _ => 0)), .inr (4, [.int 24, .int 3, .int 3, .ref (b + 81)]), .inl (cT 0, 97, .inl (fun _ => 0)), .inl (cT 6, 2, .inr (.inr (.inr (.inr (va_up (va_up (fun _ => none) 0 (some (b + 83))) 1 (some (b + 85))))))), .inr (3, [.int 8, .int 2, .int 12, .ref (b + 84)]), .inl (cT 0, 25, .inl (fun _ => 0)), .inr (3, [.int 8, .int 2, .int 12, .ref (b + 86)]), .inl (cT 0, 25, .inl (fun _ => 0)), .inl (cT 7, 2, .inr (.inr (.inr (.inr (va_up (va_up (fun _ => none) 0 (some (b + 88))) 1 (some (b + 90))))))), .inr (1, [.int 5, .int 2, .int 17, .ref (b + 89)]), .inl (cT 0, 16, .inl (fun _ => 0)), .inr (1, [.int 5, .int 2, .int 17, .ref (b + 91)]), .inl (cT 0, 16, .inl (fun _ => 0)), .inl (cT 0, 4, .inl (fun _ => 0)), .inl (cT 1, 600, .inl (fun _ => 0)), .inl (cT 2, 3, .inl (fun _ => 0)), .inl (cT 9, 4, .inr (.inr (.inr (.inr (va_up (va_up (va_up (va_up (fun _ => none) 0 (some (b + 96))) 1 (some (b + 98))) 2 (some (b + 100))) 3 (some (b + 102))))))), .inr (0, [.ref (b + 97)]), .inl (cT 0, 58, .inl (upd (fun _ => 0) 2 (-1))), .inr (4, [.int 24, .int 3, .int 3, .ref (b + 99)]), .inl (cT 0, 97, .inl (fun _ => 0)), .inr (3, [.int 8, .int 2, .int 12, .ref (b + 101)]), .inl (cT 0, 25, .inl (fun _ => 0)), .inr (1, [.int 5, .int 2, .int 17, .ref (b + 103)]), .inl (cT 0, 16, .inl (fun _ => 0)), .inr (4, [.int 24, .int 3, .int 3, .ref (b + 105)]), .inl (cT 0, 97, .inl (fun _ => 0)), .inr (6, [.ref (b + 107), .ref (b + 108), .int 0, .int 0, .int 0, .int 0]), .inl (cT 0, 5, .inl (fun _ => 0)), .inl (cT 1, 0, .inl (fun _ => 0)), .inr (5, [.ref (b + 110), .ref (b + 112), .ref (b + 113), .ref (b + 114), .ref (b + 115), .ref (b + 116), .ref (b + 117), .ref (b + 118), .ref (b + 119), .int 0, .int 0, .int 0]), .inr (0, [.ref (b + 111)]), .inl (cT 0, 58, .inl (upd (fun _ => 0) 2 (-1))), .inl (cT 0, 8, .inl (fun _ => 0)), .inl (cT 0, 8, .inl (fun _ => 0)), .inl (cT 0, 8, .inl (fun _ => 0)), .inl (cT 0, 8, .inl (fun _ => 0)), .inl (cT 0, 5, .inl (fun _ => 0)), .inl (cT 0, 5, .inl (fun _ => 0)), .inl (cT 0, 5, .inl (fun _ => 0)), .inl (cT 0, 40, .inl (fun _ => 0)), .inr (7, [.ref (b + 121), .null, .ref (b + 123), .ref (b + 124), .int 0, .ref (b + 125), .ref (b + 126), .ref (b + 127), .ref (b + 128), .ref (b + 129), .int 0]), .inr (0, [.ref (b + 122)]), .inl (cT 0, 58, .inl (upd (fun _ => 0) 2 (-1))), .inl (cT 0, 40, .inl (fun _ => 0)), .inl (cT 0, 5, .inl (fun _ => 0)), .inl (cT 0, 8, .inl (fun _ => 0)), .inl (cT 0, 5, .inl (fun _ => 0)), .inl (cT 0, 5, .inl (fun _ => 0)), .inl (cT 0, 8, .inl (fun _ => 0)), .inl (cT 0, 5, .inl (fun _ => 0)), .inr (2, [.ref (b + 131), .ref (b + 132), .ref (b + 133), .ref (b + 134), .int 0, .int 0]), .inl (cT 0, 256, .inl (fun _ => 0)), .inl (cT 0, 256, .inl (fun _ => 0)), .inl (cT 3, 256, .inr (.inl (fun _ => 0))), .inl (cT 3, 256, .inr (.inl (fun _ => 0)))]) h ∧ Array.size h = b + 135) (gb_ge b)) 134 5821 (gb_ge b) := by
  refine Met.ofW (cc := cX11_init) (maxL := 1) (ret := none) (by decide) rfl ?_
  intro p e s m args below meth c s₁ B hml hv
  obtain ⟨rfl, hSt, hP, hz⟩ := hv
  have hx := B.exec
  have hb := B.bytes
  have hr := B.returns
  have hts := atoms_spec (ws := .code yX11_init cX11_init 1 none :: gb_wA) B.pre
  have hq : ∀ w ∈ gb_wA, w.before _ s = true := fun w h => hts w (List.mem_cons_of_mem _ h)
  have hown : s.vm.findClass RX11 = some m.cls := findClass_of_methodNamed B.named
  have hlocks := B.notSynchronized
  have hin : meth.name = "<init>" := (name_of_methodNamed B.named B.method).1
  have hK := hSt.1
  have hS : va_S (gb_ge b) s.heap s.heap [] := va_S.rf
  have hl := lv_entry ([.ref (b + 0)]) (n := 1) (Nat.le_of_ble_eq_true rfl)
  rw [lg_entry_eq]
  generalize (lg_sl ([.ref (b + 0)]) ++ List.replicate (1 - (lg_sl ([.ref (b + 0)])).length) Slot.unset).toArray = ls at hl ⊢
  have hl : lv_has ls 1 [(0, .ref (b + 0))] := hl
  refine lv_aload_n hx hb dX11_init_0 rfl (lv_at hl 0 rfl) ?_
  refine W.objInit hx hb hown (hq _ w_27) (hq _ w_28) (hq _ w_29) rfl (by rw [hml]; exact hl.1) rfl dX11_init_1 (Nat.le_of_ble_eq_true rfl) (Nat.le_of_ble_eq_true rfl) ?_
  refine W.eq (g2 := F0 m 4 ls []) rfl ?_
  refine lv_aload_n hx hb dX11_init_4 rfl (lv_at hl 0 rfl) ?_
  refine gb_new (ci := 8) (fs := [.null, .null, .null, .null, .null, .null, .int 0, .int 0, .int 0]) (C := RX10) (T := TX10) (N := 9) hx hb hq i_X10 tyX10 tyX10_ok hown (hq _ w_30) (hq _ w_31) (hq _ w_2) hK hP hS 1 hz rfl rfl (fun j hj => by rcases (show j = 0 ∨ j = 1 ∨ j = 2 ∨ j = 3 ∨ j = 4 ∨ j = 5 ∨ j = 6 ∨ j = 7 ∨ j = 8 by omega) with rfl | rfl | rfl | rfl | rfl | rfl | rfl | rfl | rfl <;> rfl) (Nat.le_of_ble_eq_true rfl) (Nat.le_of_ble_eq_true rfl) dX11_init_5 (fun H hP hz hS => ?_)
  have hP : va_P D vwCl (gb_wl b [.inr (9, [.null, .null, .null, .null, .null, .null, .null, .null, .null, .int 0]), .inr (8, [.null, .null, .null, .null, .null, .null, .int 0, .int 0, .int 0])]) H := hP
  refine W.widen (k := 1) (n := 9) (Nat.le_of_ble_eq_true rfl) (Nat.le_of_ble_eq_true rfl) ?_
  refine lv_dup hx hb dX11_init_8 rfl ?_
  have hPc := gb_drop hP 1 (suf := [.inr (8, [.null, .null, .null, .null, .null, .null, .int 0, .int 0, .int 0])]) rfl rfl
  refine gb_callv (va_runIN (As := []) (rest := [.ref (b + 1), .ref (b + 0)]) ⟨hx, hb, hml, hown, hq⟩ (k_X10_init l D cT tt b1 (b + 1) (Nat.le_trans hb1 (Nat.le_add_right b 1))) (⟨va_cnB 0 hq (gb_gI w_34) rfl rfl rfl (hSt.2.1 _ gb_n32) (hq _ w_2) (by decide +kernel) ⟨Nat.le_of_ble_eq_true rfl, Nat.le_of_ble_eq_true rfl⟩, rfl, hq _ w_33⟩) (gb_preS hSt hS (fun q h => Nat.le_trans hb1 h) (show va_P D vwCl (gb_wl (b + 1) [.inr (8, [.null, .null, .null, .null, .null, .null, .int 0, .int 0, .int 0])]) H ∧ Array.size H = b + 1 + 1 from ⟨hPc, hz⟩)) rfl rfl hl.1 rfl (lv_room (Nat.le_of_ble_eq_true rfl)) dX11_init_9 ⟨Nat.le_of_ble_eq_true rfl, Nat.le_of_ble_eq_true rfl⟩) hS (fun q h => Nat.le_trans (Nat.le_add_right b 1) h) (fun q h => Nat.le_trans (Nat.le_add_right b 1) h) (fun H locs hY hk hS => ?_)
  have hP := gb_glue hP 1 (pre := [.inr (9, [.null, .null, .null, .null, .null, .null, .null, .null, .null, .int 0])]) rfl rfl hk hY.1
  have hP : va_P D vwCl (gb_wl b [.inr (9, [.null, .null, .null, .null, .null, .null, .null, .null, .null, .int 0]), .inr (8, [.ref (b + 2), .ref (b + 7), .ref (b + 12), .ref (b + 17), .ref (b + 22), .ref (b + 23), .int 0, .int 0, .int (-1)]), .inl (cT 4, 2, .inr (.inr (.inr (.inr (va_up (va_up (fun _ => none) 0 (some (b + 3))) 1 (some (b + 5))))))), .inr (0, [.ref (b + 4)]), .inl (cT 0, 58, .inl (upd (fun _ => 0) 2 (-1))), .inr (0, [.ref (b + 6)]), .inl (cT 0, 58, .inl (upd (fun _ => 0) 2 (-1))), .inl (cT 5, 2, .inr (.inr (.inr (.inr (va_up (va_up (fun _ => none) 0 (some (b + 8))) 1 (some (b + 10))))))), .inr (4, [.int 24, .int 3, .int 3, .ref (b + 9)]), .inl (cT 0, 97, .inl (fun _ => 0)), .inr (4, [.int 24, .int 3, .int 3, .ref (b + 11)]), .inl (cT 0, 97, .inl (fun _ => 0)), .inl (cT 6, 2, .inr (.inr (.inr (.inr (va_up (va_up (fun _ => none) 0 (some (b + 13))) 1 (some (b + 15))))))), .inr (3, [.int 8, .int 2, .int 12, .ref (b + 14)]), .inl (cT 0, 25, .inl (fun _ => 0)), .inr (3, [.int 8, .int 2, .int 12, .ref (b + 16)]), .inl (cT 0, 25, .inl (fun _ => 0)), .inl (cT 7, 2, .inr (.inr (.inr (.inr (va_up (va_up (fun _ => none) 0 (some (b + 18))) 1 (some (b + 20))))))), .inr (1, [.int 5, .int 2, .int 17, .ref (b + 19)]), .inl (cT 0, 16, .inl (fun _ => 0)), .inr (1, [.int 5, .int 2, .int 17, .ref (b + 21)]), .inl (cT 0, 16, .inl (fun _ => 0)), .inl (cT 0, 4, .inl (fun _ => 0)), .inl (cT 1, 600, .inl (fun _ => 0))]) H := hP
  have hz : Array.size H = b + 24 := hY.2
  refine W.widen (k := 23) (n := 1039) (Nat.le_of_ble_eq_true rfl) (Nat.le_of_ble_eq_true rfl) ?_
  refine gb_putF (ci := 9) (v := (.ref (b + 1))) (ty := .object "GooseBorder$Told") (C := RX11) (T := TX11) (N := 10) hx hb hq i_X11 tyX11 tyX11_ok nmX11 hown hK hP (fun k _ => Nat.le_add_right b k) hS hz 0 rfl rfl 0 (by decide) (hq _ w_315) (fun _ h9 => h9) rfl hin rfl (by decide +kernel) rfl rfl (Nat.le_of_ble_eq_true rfl) dX11_init_12 (fun H locs hP hz hS => ?_)
  have hP : va_P D vwCl (gb_wl b [.inr (9, [.ref (b + 1), .null, .null, .null, .null, .null, .null, .null, .null, .int 0]), .inr (8, [.ref (b + 2), .ref (b + 7), .ref (b + 12), .ref (b + 17), .ref (b + 22), .ref (b + 23), .int 0, .int 0, .int (-1)]), .inl (cT 4, 2, .inr (.inr (.inr (.inr (va_up (va_up (fun _ => none) 0 (some (b + 3))) 1 (some (b + 5))))))), .inr (0, [.ref (b + 4)]), .inl (cT 0, 58, .inl (upd (fun _ => 0) 2 (-1))), .inr (0, [.ref (b + 6)]), .inl (cT 0, 58, .inl (upd (fun _ => 0) 2 (-1))), .inl (cT 5, 2, .inr (.inr (.inr (.inr (va_up (va_up (fun _ => none) 0 (some (b + 8))) 1 (some (b + 10))))))), .inr (4, [.int 24, .int 3, .int 3, .ref (b + 9)]), .inl (cT 0, 97, .inl (fun _ => 0)), .inr (4, [.int 24, .int 3, .int 3, .ref (b + 11)]), .inl (cT 0, 97, .inl (fun _ => 0)), .inl (cT 6, 2, .inr (.inr (.inr (.inr (va_up (va_up (fun _ => none) 0 (some (b + 13))) 1 (some (b + 15))))))), .inr (3, [.int 8, .int 2, .int 12, .ref (b + 14)]), .inl (cT 0, 25, .inl (fun _ => 0)), .inr (3, [.int 8, .int 2, .int 12, .ref (b + 16)]), .inl (cT 0, 25, .inl (fun _ => 0)), .inl (cT 7, 2, .inr (.inr (.inr (.inr (va_up (va_up (fun _ => none) 0 (some (b + 18))) 1 (some (b + 20))))))), .inr (1, [.int 5, .int 2, .int 17, .ref (b + 19)]), .inl (cT 0, 16, .inl (fun _ => 0)), .inr (1, [.int 5, .int 2, .int 17, .ref (b + 21)]), .inl (cT 0, 16, .inl (fun _ => 0)), .inl (cT 0, 4, .inl (fun _ => 0)), .inl (cT 1, 600, .inl (fun _ => 0))]) H := hP
  refine lv_aload_n hx hb dX11_init_15 rfl (lv_at hl 0 rfl) ?_
  refine lv_iconst (v := 3) hx hb dX11_init_16 (by decide) ?_
  refine gb_newq (N' := 3) hx hb hown (hq _ w_30) (hSt.2.2.1 _ (by decide)) hK hP hS 24 hz rfl 8 rfl (by decide) (by decide) (Nat.le_of_ble_eq_true rfl) (Nat.le_of_ble_eq_true rfl) (Nat.le_of_ble_eq_true rfl) dX11_init_17 (fun H hP hz hS => ?_)
  have hP : va_P D vwCl (gb_wl b [.inr (9, [.ref (b + 1), .null, .null, .null, .null, .null, .null, .null, .null, .int 0]), .inr (8, [.ref (b + 2), .ref (b + 7), .ref (b + 12), .ref (b + 17), .ref (b + 22), .ref (b + 23), .int 0, .int 0, .int (-1)]), .inl (cT 4, 2, .inr (.inr (.inr (.inr (va_up (va_up (fun _ => none) 0 (some (b + 3))) 1 (some (b + 5))))))), .inr (0, [.ref (b + 4)]), .inl (cT 0, 58, .inl (upd (fun _ => 0) 2 (-1))), .inr (0, [.ref (b + 6)]), .inl (cT 0, 58, .inl (upd (fun _ => 0) 2 (-1))), .inl (cT 5, 2, .inr (.inr (.inr (.inr (va_up (va_up (fun _ => none) 0 (some (b + 8))) 1 (some (b + 10))))))), .inr (4, [.int 24, .int 3, .int 3, .ref (b + 9)]), .inl (cT 0, 97, .inl (fun _ => 0)), .inr (4, [.int 24, .int 3, .int 3, .ref (b + 11)]), .inl (cT 0, 97, .inl (fun _ => 0)), .inl (cT 6, 2, .inr (.inr (.inr (.inr (va_up (va_up (fun _ => none) 0 (some (b + 13))) 1 (some (b + 15))))))), .inr (3, [.int 8, .int 2, .int 12, .ref (b + 14)]), .inl (cT 0, 25, .inl (fun _ => 0)), .inr (3, [.int 8, .int 2, .int 12, .ref (b + 16)]), .inl (cT 0, 25, .inl (fun _ => 0)), .inl (cT 7, 2, .inr (.inr (.inr (.inr (va_up (va_up (fun _ => none) 0 (some (b + 18))) 1 (some (b + 20))))))), .inr (1, [.int 5, .int 2, .int 17, .ref (b + 19)]), .inl (cT 0, 16, .inl (fun _ => 0)), .inr (1, [.int 5, .int 2, .int 17, .ref (b + 21)]), .inl (cT 0, 16, .inl (fun _ => 0)), .inl (cT 0, 4, .inl (fun _ => 0)), .inl (cT 1, 600, .inl (fun _ => 0)), .inl (cT 8, 3, .inr (.inr (.inr (.inr (fun _ => none)))))]) H := hP
  refine W.widen (k := 24) (n := 1042) (Nat.le_of_ble_eq_true rfl) (Nat.le_of_ble_eq_true rfl) ?_
  refine lv_dup hx hb dX11_init_20 rfl ?_
  refine lv_iconst (v := 0) hx hb dX11_init_21 (by decide) ?_
  refine gb_new (ci := 8) (fs := [.null, .null, .null, .null, .null, .null, .int 0, .int 0, .int 0]) (C := RX10) (T := TX10) (N := 9) hx hb hq i_X10 tyX10 tyX10_ok hown (hq _ w_30) (hq _ w_31) (hq _ w_2) hK hP hS 25 hz rfl rfl (fun j hj => by rcases (show j = 0 ∨ j = 1 ∨ j = 2 ∨ j = 3 ∨ j = 4 ∨ j = 5 ∨ j = 6 ∨ j = 7 ∨ j = 8 by omega) with rfl | rfl | rfl | rfl | rfl | rfl | rfl | rfl | rfl <;> rfl) (Nat.le_of_ble_eq_true rfl) (Nat.le_of_ble_eq_true rfl) dX11_init_22 (fun H hP hz hS => ?_)
  have hP : va_P D vwCl (gb_wl b [.inr (9, [.ref (b + 1), .null, .null, .null, .null, .null, .null, .null, .null, .int 0]), .inr (8, [.ref (b + 2), .ref (b + 7), .ref (b + 12), .ref (b + 17), .ref (b + 22), .ref (b + 23), .int 0, .int 0, .int (-1)]), .inl (cT 4, 2, .inr (.inr (.inr (.inr (va_up (va_up (fun _ => none) 0 (some (b + 3))) 1 (some (b + 5))))))), .inr (0, [.ref (b + 4)]), .inl (cT 0, 58, .inl (upd (fun _ => 0) 2 (-1))), .inr (0, [.ref (b + 6)]), .inl (cT 0, 58, .inl (upd (fun _ => 0) 2 (-1))), .inl (cT 5, 2, .inr (.inr (.inr (.inr (va_up (va_up (fun _ => none) 0 (some (b + 8))) 1 (some (b + 10))))))), .inr (4, [.int 24, .int 3, .int 3, .ref (b + 9)]), .inl (cT 0, 97, .inl (fun _ => 0)), .inr (4, [.int 24, .int 3, .int 3, .ref (b + 11)]), .inl (cT 0, 97, .inl (fun _ => 0)), .inl (cT 6, 2, .inr (.inr (.inr (.inr (va_up (va_up (fun _ => none) 0 (some (b + 13))) 1 (some (b + 15))))))), .inr (3, [.int 8, .int 2, .int 12, .ref (b + 14)]), .inl (cT 0, 25, .inl (fun _ => 0)), .inr (3, [.int 8, .int 2, .int 12, .ref (b + 16)]), .inl (cT 0, 25, .inl (fun _ => 0)), .inl (cT 7, 2, .inr (.inr (.inr (.inr (va_up (va_up (fun _ => none) 0 (some (b + 18))) 1 (some (b + 20))))))), .inr (1, [.int 5, .int 2, .int 17, .ref (b + 19)]), .inl (cT 0, 16, .inl (fun _ => 0)), .inr (1, [.int 5, .int 2, .int 17, .ref (b + 21)]), .inl (cT 0, 16, .inl (fun _ => 0)), .inl (cT 0, 4, .inl (fun _ => 0)), .inl (cT 1, 600, .inl (fun _ => 0)), .inl (cT 8, 3, .inr (.inr (.inr (.inr (fun _ => none))))), .inr (8, [.null, .null, .null, .null, .null, .null, .int 0, .int 0, .int 0])]) H := hP
  refine W.widen (k := 25) (n := 1051) (Nat.le_of_ble_eq_true rfl) (Nat.le_of_ble_eq_true rfl) ?_
  refine lv_dup hx hb dX11_init_25 rfl ?_
  have hPc := gb_drop hP 25 (suf := [.inr (8, [.null, .null, .null, .null, .null, .null, .int 0, .int 0, .int 0])]) rfl rfl
  refine gb_callv (va_runIN (As := []) (rest := [.ref (b + 25), .int 0, .ref (b + 24), .ref (b + 24), .ref (b + 0)]) ⟨hx, hb, hml, hown, hq⟩ (k_X10_init l D cT tt b1 (b + 25) (Nat.le_trans hb1 (Nat.le_add_right b 25))) (⟨va_cnB 0 hq (gb_gI w_34) rfl rfl rfl (hSt.2.1 _ gb_n32) (hq _ w_2) (by decide +kernel) ⟨Nat.le_of_ble_eq_true rfl, Nat.le_of_ble_eq_true rfl⟩, rfl, hq _ w_33⟩) (gb_preS hSt hS (fun q h => Nat.le_trans hb1 h) (show va_P D vwCl (gb_wl (b + 25) [.inr (8, [.null, .null, .null, .null, .null, .null, .int 0, .int 0, .int 0])]) H ∧ Array.size H = b + 25 + 1 from ⟨hPc, hz⟩)) rfl rfl hl.1 rfl (lv_room (Nat.le_of_ble_eq_true rfl)) dX11_init_26 ⟨Nat.le_of_ble_eq_true rfl, Nat.le_of_ble_eq_true rfl⟩) hS (fun q h => Nat.le_trans (Nat.le_add_right b 25) h) (fun q h => Nat.le_trans (Nat.le_add_right b 25) h) (fun H locs hY hk hS => ?_)
  have hP := gb_glue hP 25 (pre := [.inr (9, [.ref (b + 1), .null, .null, .null, .null, .null, .null, .null, .null, .int 0]), .inr (8, [.ref (b + 2), .ref (b + 7), .ref (b + 12), .ref (b + 17), .ref (b + 22), .ref (b + 23), .int 0, .int 0, .int (-1)]), .inl (cT 4, 2, .inr (.inr (.inr (.inr (va_up (va_up (fun _ => none) 0 (some (b + 3))) 1 (some (b + 5))))))), .inr (0, [.ref (b + 4)]), .inl (cT 0, 58, .inl (upd (fun _ => 0) 2 (-1))), .inr (0, [.ref (b + 6)]), .inl (cT 0, 58, .inl (upd (fun _ => 0) 2 (-1))), .inl (cT 5, 2, .inr (.inr (.inr (.inr (va_up (va_up (fun _ => none) 0 (some (b + 8))) 1 (some (b + 10))))))), .inr (4, [.int 24, .int 3, .int 3, .ref (b + 9)]), .inl (cT 0, 97, .inl (fun _ => 0)), .inr (4, [.int 24, .int 3, .int 3, .ref (b + 11)]), .inl (cT 0, 97, .inl (fun _ => 0)), .inl (cT 6, 2, .inr (.inr (.inr (.inr (va_up (va_up (fun _ => none) 0 (some (b + 13))) 1 (some (b + 15))))))), .inr (3, [.int 8, .int 2, .int 12, .ref (b + 14)]), .inl (cT 0, 25, .inl (fun _ => 0)), .inr (3, [.int 8, .int 2, .int 12, .ref (b + 16)]), .inl (cT 0, 25, .inl (fun _ => 0)), .inl (cT 7, 2, .inr (.inr (.inr (.inr (va_up (va_up (fun _ => none) 0 (some (b + 18))) 1 (some (b + 20))))))), .inr (1, [.int 5, .int 2, .int 17, .ref (b + 19)]), .inl (cT 0, 16, .inl (fun _ => 0)), .inr (1, [.int 5, .int 2, .int 17, .ref (b + 21)]), .inl (cT 0, 16, .inl (fun _ => 0)), .inl (cT 0, 4, .inl (fun _ => 0)), .inl (cT 1, 600, .inl (fun _ => 0)), .inl (cT 8, 3, .inr (.inr (.inr (.inr (fun _ => none)))))]) rfl rfl hk hY.1
  have hP : va_P D vwCl (gb_wl b [.inr (9, [.ref (b + 1), .null, .null, .null, .null, .null, .null, .null, .null, .int 0]), .inr (8, [.ref (b + 2), .ref (b + 7), .ref (b + 12), .ref (b + 17), .ref (b + 22), .ref (b + 23), .int 0, .int 0, .int (-1)]), .inl (cT 4, 2, .inr (.inr (.inr (.inr (va_up (va_up (fun _ => none) 0 (some (b + 3))) 1 (some (b + 5))))))), .inr (0, [.ref (b + 4)]), .inl (cT 0, 58, .inl (upd (fun _ => 0) 2 (-1))), .inr (0, [.ref (b + 6)]), .inl (cT 0, 58, .inl (upd (fun _ => 0) 2 (-1))), .inl (cT 5, 2, .inr (.inr (.inr (.inr (va_up (va_up (fun _ => none) 0 (some (b + 8))) 1 (some (b + 10))))))), .inr (4, [.int 24, .int 3, .int 3, .ref (b + 9)]), .inl (cT 0, 97, .inl (fun _ => 0)), .inr (4, [.int 24, .int 3, .int 3, .ref (b + 11)]), .inl (cT 0, 97, .inl (fun _ => 0)), .inl (cT 6, 2, .inr (.inr (.inr (.inr (va_up (va_up (fun _ => none) 0 (some (b + 13))) 1 (some (b + 15))))))), .inr (3, [.int 8, .int 2, .int 12, .ref (b + 14)]), .inl (cT 0, 25, .inl (fun _ => 0)), .inr (3, [.int 8, .int 2, .int 12, .ref (b + 16)]), .inl (cT 0, 25, .inl (fun _ => 0)), .inl (cT 7, 2, .inr (.inr (.inr (.inr (va_up (va_up (fun _ => none) 0 (some (b + 18))) 1 (some (b + 20))))))), .inr (1, [.int 5, .int 2, .int 17, .ref (b + 19)]), .inl (cT 0, 16, .inl (fun _ => 0)), .inr (1, [.int 5, .int 2, .int 17, .ref (b + 21)]), .inl (cT 0, 16, .inl (fun _ => 0)), .inl (cT 0, 4, .inl (fun _ => 0)), .inl (cT 1, 600, .inl (fun _ => 0)), .inl (cT 8, 3, .inr (.inr (.inr (.inr (fun _ => none))))), .inr (8, [.ref (b + 26), .ref (b + 31), .ref (b + 36), .ref (b + 41), .ref (b + 46), .ref (b + 47), .int 0, .int 0, .int (-1)]), .inl (cT 4, 2, .inr (.inr (.inr (.inr (va_up (va_up (fun _ => none) 0 (some (b + 27))) 1 (some (b + 29))))))), .inr (0, [.ref (b + 28)]), .inl (cT 0, 58, .inl (upd (fun _ => 0) 2 (-1))), .inr (0, [.ref (b + 30)]), .inl (cT 0, 58, .inl (upd (fun _ => 0) 2 (-1))), .inl (cT 5, 2, .inr (.inr (.inr (.inr (va_up (va_up (fun _ => none) 0 (some (b + 32))) 1 (some (b + 34))))))), .inr (4, [.int 24, .int 3, .int 3, .ref (b + 33)]), .inl (cT 0, 97, .inl (fun _ => 0)), .inr (4, [.int 24, .int 3, .int 3, .ref (b + 35)]), .inl (cT 0, 97, .inl (fun _ => 0)), .inl (cT 6, 2, .inr (.inr (.inr (.inr (va_up (va_up (fun _ => none) 0 (some (b + 37))) 1 (some (b + 39))))))), .inr (3, [.int 8, .int 2, .int 12, .ref (b + 38)]), .inl (cT 0, 25, .inl (fun _ => 0)), .inr (3, [.int 8, .int 2, .int 12, .ref (b + 40)]), .inl (cT 0, 25, .inl (fun _ => 0)), .inl (cT 7, 2, .inr (.inr (.inr (.inr (va_up (va_up (fun _ => none) 0 (some (b + 42))) 1 (some (b + 44))))))), .inr (1, [.int 5, .int 2, .int 17, .ref (b + 43)]), .inl (cT 0, 16, .inl (fun _ => 0)), .inr (1, [.int 5, .int 2, .int 17, .ref (b + 45)]), .inl (cT 0, 16, .inl (fun _ => 0)), .inl (cT 0, 4, .inl (fun _ => 0)), .inl (cT 1, 600, .inl (fun _ => 0))]) H := hP
  have hz : Array.size H = b + 48 := hY.2
  refine W.widen (k := 47) (n := 2081) (Nat.le_of_ble_eq_true rfl) (Nat.le_of_ble_eq_true rfl) ?_
  refine gb_astq (E := "GooseBorder$Told") hx hb hK hP (fun k _ => Nat.le_add_right b k) hS hz 24 8 25 8 rfl rfl (Or.inl rfl) rfl rfl (gb_in rfl) dX11_init_29 (fun H locs hP hz hS => ?_)
  have hP : va_P D vwCl (gb_wl b [.inr (9, [.ref (b + 1), .null, .null, .null, .null, .null, .null, .null, .null, .int 0]), .inr (8, [.ref (b + 2), .ref (b + 7), .ref (b + 12), .ref (b + 17), .ref (b + 22), .ref (b + 23), .int 0, .int 0, .int (-1)]), .inl (cT 4, 2, .inr (.inr (.inr (.inr (va_up (va_up (fun _ => none) 0 (some (b + 3))) 1 (some (b + 5))))))), .inr (0, [.ref (b + 4)]), .inl (cT 0, 58, .inl (upd (fun _ => 0) 2 (-1))), .inr (0, [.ref (b + 6)]), .inl (cT 0, 58, .inl (upd (fun _ => 0) 2 (-1))), .inl (cT 5, 2, .inr (.inr (.inr (.inr (va_up (va_up (fun _ => none) 0 (some (b + 8))) 1 (some (b + 10))))))), .inr (4, [.int 24, .int 3, .int 3, .ref (b + 9)]), .inl (cT 0, 97, .inl (fun _ => 0)), .inr (4, [.int 24, .int 3, .int 3, .ref (b + 11)]), .inl (cT 0, 97, .inl (fun _ => 0)), .inl (cT 6, 2, .inr (.inr (.inr (.inr (va_up (va_up (fun _ => none) 0 (some (b + 13))) 1 (some (b + 15))))))), .inr (3, [.int 8, .int 2, .int 12, .ref (b + 14)]), .inl (cT 0, 25, .inl (fun _ => 0)), .inr (3, [.int 8, .int 2, .int 12, .ref (b + 16)]), .inl (cT 0, 25, .inl (fun _ => 0)), .inl (cT 7, 2, .inr (.inr (.inr (.inr (va_up (va_up (fun _ => none) 0 (some (b + 18))) 1 (some (b + 20))))))), .inr (1, [.int 5, .int 2, .int 17, .ref (b + 19)]), .inl (cT 0, 16, .inl (fun _ => 0)), .inr (1, [.int 5, .int 2, .int 17, .ref (b + 21)]), .inl (cT 0, 16, .inl (fun _ => 0)), .inl (cT 0, 4, .inl (fun _ => 0)), .inl (cT 1, 600, .inl (fun _ => 0)), .inl (cT 8, 3, .inr (.inr (.inr (.inr (va_up (fun _ => none) 0 (some (b + 25))))))), .inr (8, [.ref (b + 26), .ref (b + 31), .ref (b + 36), .ref (b + 41), .ref (b + 46), .ref (b + 47), .int 0, .int 0, .int (-1)]), .inl (cT 4, 2, .inr (.inr (.inr (.inr (va_up (va_up (fun _ => none) 0 (some (b + 27))) 1 (some (b + 29))))))), .inr (0, [.ref (b + 28)]), .inl (cT 0, 58, .inl (upd (fun _ => 0) 2 (-1))), .inr (0, [.ref (b + 30)]), .inl (cT 0, 58, .inl (upd (fun _ => 0) 2 (-1))), .inl (cT 5, 2, .inr (.inr (.inr (.inr (va_up (va_up (fun _ => none) 0 (some (b + 32))) 1 (some (b + 34))))))), .inr (4, [.int 24, .int 3, .int 3, .ref (b + 33)]), .inl (cT 0, 97, .inl (fun _ => 0)), .inr (4, [.int 24, .int 3, .int 3, .ref (b + 35)]), .inl (cT 0, 97, .inl (fun _ => 0)), .inl (cT 6, 2, .inr (.inr (.inr (.inr (va_up (va_up (fun _ => none) 0 (some (b + 37))) 1 (some (b + 39))))))), .inr (3, [.int 8, .int 2, .int 12, .ref (b + 38)]), .inl (cT 0, 25, .inl (fun _ => 0)), .inr (3, [.int 8, .int 2, .int 12, .ref (b + 40)]), .inl (cT 0, 25, .inl (fun _ => 0)), .inl (cT 7, 2, .inr (.inr (.inr (.inr (va_up (va_up (fun _ => none) 0 (some (b + 42))) 1 (some (b + 44))))))), .inr (1, [.int 5, .int 2, .int 17, .ref (b + 43)]), .inl (cT 0, 16, .inl (fun _ => 0)), .inr (1, [.int 5, .int 2, .int 17, .ref (b + 45)]), .inl (cT 0, 16, .inl (fun _ => 0)), .inl (cT 0, 4, .inl (fun _ => 0)), .inl (cT 1, 600, .inl (fun _ => 0))]) H := hP
  refine lv_dup hx hb dX11_init_30 rfl ?_
  refine lv_iconst (v := 1) hx hb dX11_init_31 (by decide) ?_
  refine gb_new (ci := 8) (fs := [.null, .null, .null, .null, .null, .null, .int 0, .int 0, .int 0]) (C := RX10) (T := TX10) (N := 9) hx hb hq i_X10 tyX10 tyX10_ok hown (hq _ w_30) (hq _ w_31) (hq _ w_2) hK hP hS 48 hz rfl rfl (fun j hj => by rcases (show j = 0 ∨ j = 1 ∨ j = 2 ∨ j = 3 ∨ j = 4 ∨ j = 5 ∨ j = 6 ∨ j = 7 ∨ j = 8 by omega) with rfl | rfl | rfl | rfl | rfl | rfl | rfl | rfl | rfl <;> rfl) (Nat.le_of_ble_eq_true rfl) (Nat.le_of_ble_eq_true rfl) dX11_init_32 (fun H hP hz hS => ?_)
  have hP : va_P D vwCl (gb_wl b [.inr (9, [.ref (b + 1), .null, .null, .null, .null, .null, .null, .null, .null, .int 0]), .inr (8, [.ref (b + 2), .ref (b + 7), .ref (b + 12), .ref (b + 17), .ref (b + 22), .ref (b + 23), .int 0, .int 0, .int (-1)]), .inl (cT 4, 2, .inr (.inr (.inr (.inr (va_up (va_up (fun _ => none) 0 (some (b + 3))) 1 (some (b + 5))))))), .inr (0, [.ref (b + 4)]), .inl (cT 0, 58, .inl (upd (fun _ => 0) 2 (-1))), .inr (0, [.ref (b + 6)]), .inl (cT 0, 58, .inl (upd (fun _ => 0) 2 (-1))), .inl (cT 5, 2, .inr (.inr (.inr (.inr (va_up (va_up (fun _ => none) 0 (some (b + 8))) 1 (some (b + 10))))))), .inr (4, [.int 24, .int 3, .int 3, .ref (b + 9)]), .inl (cT 0, 97, .inl (fun _ => 0)), .inr (4, [.int 24, .int 3, .int 3, .ref (b + 11)]), .inl (cT 0, 97, .inl (fun _ => 0)), .inl (cT 6, 2, .inr (.inr (.inr (.inr (va_up (va_up (fun _ => none) 0 (some (b + 13))) 1 (some (b + 15))))))), .inr (3, [.int 8, .int 2, .int 12, .ref (b + 14)]), .inl (cT 0, 25, .inl (fun _ => 0)), .inr (3, [.int 8, .int 2, .int 12, .ref (b + 16)]), .inl (cT 0, 25, .inl (fun _ => 0)), .inl (cT 7, 2, .inr (.inr (.inr (.inr (va_up (va_up (fun _ => none) 0 (some (b + 18))) 1 (some (b + 20))))))), .inr (1, [.int 5, .int 2, .int 17, .ref (b + 19)]), .inl (cT 0, 16, .inl (fun _ => 0)), .inr (1, [.int 5, .int 2, .int 17, .ref (b + 21)]), .inl (cT 0, 16, .inl (fun _ => 0)), .inl (cT 0, 4, .inl (fun _ => 0)), .inl (cT 1, 600, .inl (fun _ => 0)), .inl (cT 8, 3, .inr (.inr (.inr (.inr (va_up (fun _ => none) 0 (some (b + 25))))))), .inr (8, [.ref (b + 26), .ref (b + 31), .ref (b + 36), .ref (b + 41), .ref (b + 46), .ref (b + 47), .int 0, .int 0, .int (-1)]), .inl (cT 4, 2, .inr (.inr (.inr (.inr (va_up (va_up (fun _ => none) 0 (some (b + 27))) 1 (some (b + 29))))))), .inr (0, [.ref (b + 28)]), .inl (cT 0, 58, .inl (upd (fun _ => 0) 2 (-1))), .inr (0, [.ref (b + 30)]), .inl (cT 0, 58, .inl (upd (fun _ => 0) 2 (-1))), .inl (cT 5, 2, .inr (.inr (.inr (.inr (va_up (va_up (fun _ => none) 0 (some (b + 32))) 1 (some (b + 34))))))), .inr (4, [.int 24, .int 3, .int 3, .ref (b + 33)]), .inl (cT 0, 97, .inl (fun _ => 0)), .inr (4, [.int 24, .int 3, .int 3, .ref (b + 35)]), .inl (cT 0, 97, .inl (fun _ => 0)), .inl (cT 6, 2, .inr (.inr (.inr (.inr (va_up (va_up (fun _ => none) 0 (some (b + 37))) 1 (some (b + 39))))))), .inr (3, [.int 8, .int 2, .int 12, .ref (b + 38)]), .inl (cT 0, 25, .inl (fun _ => 0)), .inr (3, [.int 8, .int 2, .int 12, .ref (b + 40)]), .inl (cT 0, 25, .inl (fun _ => 0)), .inl (cT 7, 2, .inr (.inr (.inr (.inr (va_up (va_up (fun _ => none) 0 (some (b + 42))) 1 (some (b + 44))))))), .inr (1, [.int 5, .int 2, .int 17, .ref (b + 43)]), .inl (cT 0, 16, .inl (fun _ => 0)), .inr (1, [.int 5, .int 2, .int 17, .ref (b + 45)]), .inl (cT 0, 16, .inl (fun _ => 0)), .inl (cT 0, 4, .inl (fun _ => 0)), .inl (cT 1, 600, .inl (fun _ => 0)), .inr (8, [.null, .null, .null, .null, .null, .null, .int 0, .int 0, .int 0])]) H := hP
  refine W.widen (k := 48) (n := 2090) (Nat.le_of_ble_eq_true rfl) (Nat.le_of_ble_eq_true rfl) ?_
  refine lv_dup hx hb dX11_init_35 rfl ?_
  have hPc := gb_drop hP 48 (suf := [.inr (8, [.null, .null, .null, .null, .null, .null, .int 0, .int 0, .int 0])]) rfl rfl
  refine gb_callv (va_runIN (As := []) (rest := [.ref (b + 48), .int 1, .ref (b + 24), .ref (b + 24), .ref (b + 0)]) ⟨hx, hb, hml, hown, hq⟩ (k_X10_init l D cT tt b1 (b + 48) (Nat.le_trans hb1 (Nat.le_add_right b 48))) (⟨va_cnB 0 hq (gb_gI w_34) rfl rfl rfl (hSt.2.1 _ gb_n32) (hq _ w_2) (by decide +kernel) ⟨Nat.le_of_ble_eq_true rfl, Nat.le_of_ble_eq_true rfl⟩, rfl, hq _ w_33⟩) (gb_preS hSt hS (fun q h => Nat.le_trans hb1 h) (show va_P D vwCl (gb_wl (b + 48) [.inr (8, [.null, .null, .null, .null, .null, .null, .int 0, .int 0, .int 0])]) H ∧ Array.size H = b + 48 + 1 from ⟨hPc, hz⟩)) rfl rfl hl.1 rfl (lv_room (Nat.le_of_ble_eq_true rfl)) dX11_init_36 ⟨Nat.le_of_ble_eq_true rfl, Nat.le_of_ble_eq_true rfl⟩) hS (fun q h => Nat.le_trans (Nat.le_add_right b 48) h) (fun q h => Nat.le_trans (Nat.le_add_right b 48) h) (fun H locs hY hk hS => ?_)
  have hP := gb_glue hP 48 (pre := [.inr (9, [.ref (b + 1), .null, .null, .null, .null, .null, .null, .null, .null, .int 0]), .inr (8, [.ref (b + 2), .ref (b + 7), .ref (b + 12), .ref (b + 17), .ref (b + 22), .ref (b + 23), .int 0, .int 0, .int (-1)]), .inl (cT 4, 2, .inr (.inr (.inr (.inr (va_up (va_up (fun _ => none) 0 (some (b + 3))) 1 (some (b + 5))))))), .inr (0, [.ref (b + 4)]), .inl (cT 0, 58, .inl (upd (fun _ => 0) 2 (-1))), .inr (0, [.ref (b + 6)]), .inl (cT 0, 58, .inl (upd (fun _ => 0) 2 (-1))), .inl (cT 5, 2, .inr (.inr (.inr (.inr (va_up (va_up (fun _ => none) 0 (some (b + 8))) 1 (some (b + 10))))))), .inr (4, [.int 24, .int 3, .int 3, .ref (b + 9)]), .inl (cT 0, 97, .inl (fun _ => 0)), .inr (4, [.int 24, .int 3, .int 3, .ref (b + 11)]), .inl (cT 0, 97, .inl (fun _ => 0)), .inl (cT 6, 2, .inr (.inr (.inr (.inr (va_up (va_up (fun _ => none) 0 (some (b + 13))) 1 (some (b + 15))))))), .inr (3, [.int 8, .int 2, .int 12, .ref (b + 14)]), .inl (cT 0, 25, .inl (fun _ => 0)), .inr (3, [.int 8, .int 2, .int 12, .ref (b + 16)]), .inl (cT 0, 25, .inl (fun _ => 0)), .inl (cT 7, 2, .inr (.inr (.inr (.inr (va_up (va_up (fun _ => none) 0 (some (b + 18))) 1 (some (b + 20))))))), .inr (1, [.int 5, .int 2, .int 17, .ref (b + 19)]), .inl (cT 0, 16, .inl (fun _ => 0)), .inr (1, [.int 5, .int 2, .int 17, .ref (b + 21)]), .inl (cT 0, 16, .inl (fun _ => 0)), .inl (cT 0, 4, .inl (fun _ => 0)), .inl (cT 1, 600, .inl (fun _ => 0)), .inl (cT 8, 3, .inr (.inr (.inr (.inr (va_up (fun _ => none) 0 (some (b + 25))))))), .inr (8, [.ref (b + 26), .ref (b + 31), .ref (b + 36), .ref (b + 41), .ref (b + 46), .ref (b + 47), .int 0, .int 0, .int (-1)]), .inl (cT 4, 2, .inr (.inr (.inr (.inr (va_up (va_up (fun _ => none) 0 (some (b + 27))) 1 (some (b + 29))))))), .inr (0, [.ref (b + 28)]), .inl (cT 0, 58, .inl (upd (fun _ => 0) 2 (-1))), .inr (0, [.ref (b + 30)]), .inl (cT 0, 58, .inl (upd (fun _ => 0) 2 (-1))), .inl (cT 5, 2, .inr (.inr (.inr (.inr (va_up (va_up (fun _ => none) 0 (some (b + 32))) 1 (some (b + 34))))))), .inr (4, [.int 24, .int 3, .int 3, .ref (b + 33)]), .inl (cT 0, 97, .inl (fun _ => 0)), .inr (4, [.int 24, .int 3, .int 3, .ref (b + 35)]), .inl (cT 0, 97, .inl (fun _ => 0)), .inl (cT 6, 2, .inr (.inr (.inr (.inr (va_up (va_up (fun _ => none) 0 (some (b + 37))) 1 (some (b + 39))))))), .inr (3, [.int 8, .int 2, .int 12, .ref (b + 38)]), .inl (cT 0, 25, .inl (fun _ => 0)), .inr (3, [.int 8, .int 2, .int 12, .ref (b + 40)]), .inl (cT 0, 25, .inl (fun _ => 0)), .inl (cT 7, 2, .inr (.inr (.inr (.inr (va_up (va_up (fun _ => none) 0 (some (b + 42))) 1 (some (b + 44))))))), .inr (1, [.int 5, .int 2, .int 17, .ref (b + 43)]), .inl (cT 0, 16, .inl (fun _ => 0)), .inr (1, [.int 5, .int 2, .int 17, .ref (b + 45)]), .inl (cT 0, 16, .inl (fun _ => 0)), .inl (cT 0, 4, .inl (fun _ => 0)), .inl (cT 1, 600, .inl (fun _ => 0))]) rfl rfl hk hY.1
  have hP : va_P D vwCl (gb_wl b [.inr (9, [.ref (b + 1), .null, .null, .null, .null, .null, .null, .null, .null, .int 0]), .inr (8, [.ref (b + 2), .ref (b + 7), .ref (b + 12), .ref (b + 17), .ref (b + 22), .ref (b + 23), .int 0, .int 0, .int (-1)]), .inl (cT 4, 2, .inr (.inr (.inr (.inr (va_up (va_up (fun _ => none) 0 (some (b + 3))) 1 (some (b + 5))))))), .inr (0, [.ref (b + 4)]), .inl (cT 0, 58, .inl (upd (fun _ => 0) 2 (-1))), .inr (0, [.ref (b + 6)]), .inl (cT 0, 58, .inl (upd (fun _ => 0) 2 (-1))), .inl (cT 5, 2, .inr (.inr (.inr (.inr (va_up (va_up (fun _ => none) 0 (some (b + 8))) 1 (some (b + 10))))))), .inr (4, [.int 24, .int 3, .int 3, .ref (b + 9)]), .inl (cT 0, 97, .inl (fun _ => 0)), .inr (4, [.int 24, .int 3, .int 3, .ref (b + 11)]), .inl (cT 0, 97, .inl (fun _ => 0)), .inl (cT 6, 2, .inr (.inr (.inr (.inr (va_up (va_up (fun _ => none) 0 (some (b + 13))) 1 (some (b + 15))))))), .inr (3, [.int 8, .int 2, .int 12, .ref (b + 14)]), .inl (cT 0, 25, .inl (fun _ => 0)), .inr (3, [.int 8, .int 2, .int 12, .ref (b + 16)]), .inl (cT 0, 25, .inl (fun _ => 0)), .inl (cT 7, 2, .inr (.inr (.inr (.inr (va_up (va_up (fun _ => none) 0 (some (b + 18))) 1 (some (b + 20))))))), .inr (1, [.int 5, .int 2, .int 17, .ref (b + 19)]), .inl (cT 0, 16, .inl (fun _ => 0)), .inr (1, [.int 5, .int 2, .int 17, .ref (b + 21)]), .inl (cT 0, 16, .inl (fun _ => 0)), .inl (cT 0, 4, .inl (fun _ => 0)), .inl (cT 1, 600, .inl (fun _ => 0)), .inl (cT 8, 3, .inr (.inr (.inr (.inr (va_up (fun _ => none) 0 (some (b + 25))))))), .inr (8, [.ref (b + 26), .ref (b + 31), .ref (b + 36), .ref (b + 41), .ref (b + 46), .ref (b + 47), .int 0, .int 0, .int (-1)]), .inl (cT 4, 2, .inr (.inr (.inr (.inr (va_up (va_up (fun _ => none) 0 (some (b + 27))) 1 (some (b + 29))))))), .inr (0, [.ref (b + 28)]), .inl (cT 0, 58, .inl (upd (fun _ => 0) 2 (-1))), .inr (0, [.ref (b + 30)]), .inl (cT 0, 58, .inl (upd (fun _ => 0) 2 (-1))), .inl (cT 5, 2, .inr (.inr (.inr (.inr (va_up (va_up (fun _ => none) 0 (some (b + 32))) 1 (some (b + 34))))))), .inr (4, [.int 24, .int 3, .int 3, .ref (b + 33)]), .inl (cT 0, 97, .inl (fun _ => 0)), .inr (4, [.int 24, .int 3, .int 3, .ref (b + 35)]), .inl (cT 0, 97, .inl (fun _ => 0)), .inl (cT 6, 2, .inr (.inr (.inr (.inr (va_up (va_up (fun _ => none) 0 (some (b + 37))) 1 (some (b + 39))))))), .inr (3, [.int 8, .int 2, .int 12, .ref (b + 38)]), .inl (cT 0, 25, .inl (fun _ => 0)), .inr (3, [.int 8, .int 2, .int 12, .ref (b + 40)]), .inl (cT 0, 25, .inl (fun _ => 0)), .inl (cT 7, 2, .inr (.inr (.inr (.inr (va_up (va_up (fun _ => none) 0 (some (b + 42))) 1 (some (b + 44))))))), .inr (1, [.int 5, .int 2, .int 17, .ref (b + 43)]), .inl (cT 0, 16, .inl (fun _ => 0)), .inr (1, [.int 5, .int 2, .int 17, .ref (b + 45)]), .inl (cT 0, 16, .inl (fun _ => 0)), .inl (cT 0, 4, .inl (fun _ => 0)), .inl (cT 1, 600, .inl (fun _ => 0)), .inr (8, [.ref (b + 49), .ref (b + 54), .ref (b + 59), .ref (b + 64), .ref (b + 69), .ref (b + 70), .int 0, .int 0, .int (-1)]), .inl (cT 4, 2, .inr (.inr (.inr (.inr (va_up (va_up (fun _ => none) 0 (some (b + 50))) 1 (some (b + 52))))))), .inr (0, [.ref (b + 51)]), .inl (cT 0, 58, .inl (upd (fun _ => 0) 2 (-1))), .inr (0, [.ref (b + 53)]), .inl (cT 0, 58, .inl (upd (fun _ => 0) 2 (-1))), .inl (cT 5, 2, .inr (.inr (.inr (.inr (va_up (va_up (fun _ => none) 0 (some (b + 55))) 1 (some (b + 57))))))), .inr (4, [.int 24, .int 3, .int 3, .ref (b + 56)]), .inl (cT 0, 97, .inl (fun _ => 0)), .inr (4, [.int 24, .int 3, .int 3, .ref (b + 58)]), .inl (cT 0, 97, .inl (fun _ => 0)), .inl (cT 6, 2, .inr (.inr (.inr (.inr (va_up (va_up (fun _ => none) 0 (some (b + 60))) 1 (some (b + 62))))))), .inr (3, [.int 8, .int 2, .int 12, .ref (b + 61)]), .inl (cT 0, 25, .inl (fun _ => 0)), .inr (3, [.int 8, .int 2, .int 12, .ref (b + 63)]), .inl (cT 0, 25, .inl (fun _ => 0)), .inl (cT 7, 2, .inr (.inr (.inr (.inr (va_up (va_up (fun _ => none) 0 (some (b + 65))) 1 (some (b + 67))))))), .inr (1, [.int 5, .int 2, .int 17, .ref (b + 66)]), .inl (cT 0, 16, .inl (fun _ => 0)), .inr (1, [.int 5, .int 2, .int 17, .ref (b + 68)]), .inl (cT 0, 16, .inl (fun _ => 0)), .inl (cT 0, 4, .inl (fun _ => 0)), .inl (cT 1, 600, .inl (fun _ => 0))]) H := hP
  have hz : Array.size H = b + 71 := hY.2
  refine W.widen (k := 70) (n := 3120) (Nat.le_of_ble_eq_true rfl) (Nat.le_of_ble_eq_true rfl) ?_
  refine gb_astq (E := "GooseBorder$Told") hx hb hK hP (fun k _ => Nat.le_add_right b k) hS hz 24 8 48 8 rfl rfl (Or.inl rfl) rfl rfl (gb_in rfl) dX11_init_39 (fun H locs hP hz hS => ?_)
  have hP : va_P D vwCl (gb_wl b [.inr (9, [.ref (b + 1), .null, .null, .null, .null, .null, .null, .null, .null, .int 0]), .inr (8, [.ref (b + 2), .ref (b + 7), .ref (b + 12), .ref (b + 17), .ref (b + 22), .ref (b + 23), .int 0, .int 0, .int (-1)]), .inl (cT 4, 2, .inr (.inr (.inr (.inr (va_up (va_up (fun _ => none) 0 (some (b + 3))) 1 (some (b + 5))))))), .inr (0, [.ref (b + 4)]), .inl (cT 0, 58, .inl (upd (fun _ => 0) 2 (-1))), .inr (0, [.ref (b + 6)]), .inl (cT 0, 58, .inl (upd (fun _ => 0) 2 (-1))), .inl (cT 5, 2, .inr (.inr (.inr (.inr (va_up (va_up (fun _ => none) 0 (some (b + 8))) 1 (some (b + 10))))))), .inr (4, [.int 24, .int 3, .int 3, .ref (b + 9)]), .inl (cT 0, 97, .inl (fun _ => 0)), .inr (4, [.int 24, .int 3, .int 3, .ref (b + 11)]), .inl (cT 0, 97, .inl (fun _ => 0)), .inl (cT 6, 2, .inr (.inr (.inr (.inr (va_up (va_up (fun _ => none) 0 (some (b + 13))) 1 (some (b + 15))))))), .inr (3, [.int 8, .int 2, .int 12, .ref (b + 14)]), .inl (cT 0, 25, .inl (fun _ => 0)), .inr (3, [.int 8, .int 2, .int 12, .ref (b + 16)]), .inl (cT 0, 25, .inl (fun _ => 0)), .inl (cT 7, 2, .inr (.inr (.inr (.inr (va_up (va_up (fun _ => none) 0 (some (b + 18))) 1 (some (b + 20))))))), .inr (1, [.int 5, .int 2, .int 17, .ref (b + 19)]), .inl (cT 0, 16, .inl (fun _ => 0)), .inr (1, [.int 5, .int 2, .int 17, .ref (b + 21)]), .inl (cT 0, 16, .inl (fun _ => 0)), .inl (cT 0, 4, .inl (fun _ => 0)), .inl (cT 1, 600, .inl (fun _ => 0)), .inl (cT 8, 3, .inr (.inr (.inr (.inr (va_up (va_up (fun _ => none) 0 (some (b + 25))) 1 (some (b + 48))))))), .inr (8, [.ref (b + 26), .ref (b + 31), .ref (b + 36), .ref (b + 41), .ref (b + 46), .ref (b + 47), .int 0, .int 0, .int (-1)]), .inl (cT 4, 2, .inr (.inr (.inr (.inr (va_up (va_up (fun _ => none) 0 (some (b + 27))) 1 (some (b + 29))))))), .inr (0, [.ref (b + 28)]), .inl (cT 0, 58, .inl (upd (fun _ => 0) 2 (-1))), .inr (0, [.ref (b + 30)]), .inl (cT 0, 58, .inl (upd (fun _ => 0) 2 (-1))), .inl (cT 5, 2, .inr (.inr (.inr (.inr (va_up (va_up (fun _ => none) 0 (some (b + 32))) 1 (some (b + 34))))))), .inr (4, [.int 24, .int 3, .int 3, .ref (b + 33)]), .inl (cT 0, 97, .inl (fun _ => 0)), .inr (4, [.int 24, .int 3, .int 3, .ref (b + 35)]), .inl (cT 0, 97, .inl (fun _ => 0)), .inl (cT 6, 2, .inr (.inr (.inr (.inr (va_up (va_up (fun _ => none) 0 (some (b + 37))) 1 (some (b + 39))))))), .inr (3, [.int 8, .int 2, .int 12, .ref (b + 38)]), .inl (cT 0, 25, .inl (fun _ => 0)), .inr (3, [.int 8, .int 2, .int 12, .ref (b + 40)]), .inl (cT 0, 25, .inl (fun _ => 0)), .inl (cT 7, 2, .inr (.inr (.inr (.inr (va_up (va_up (fun _ => none) 0 (some (b + 42))) 1 (some (b + 44))))))), .inr (1, [.int 5, .int 2, .int 17, .ref (b + 43)]), .inl (cT 0, 16, .inl (fun _ => 0)), .inr (1, [.int 5, .int 2, .int 17, .ref (b + 45)]), .inl (cT 0, 16, .inl (fun _ => 0)), .inl (cT 0, 4, .inl (fun _ => 0)), .inl (cT 1, 600, .inl (fun _ => 0)), .inr (8, [.ref (b + 49), .ref (b + 54), .ref (b + 59), .ref (b + 64), .ref (b + 69), .ref (b + 70), .int 0, .int 0, .int (-1)]), .inl (cT 4, 2, .inr (.inr (.inr (.inr (va_up (va_up (fun _ => none) 0 (some (b + 50))) 1 (some (b + 52))))))), .inr (0, [.ref (b + 51)]), .inl (cT 0, 58, .inl (upd (fun _ => 0) 2 (-1))), .inr (0, [.ref (b + 53)]), .inl (cT 0, 58, .inl (upd (fun _ => 0) 2 (-1))), .inl (cT 5, 2, .inr (.inr (.inr (.inr (va_up (va_up (fun _ => none) 0 (some (b + 55))) 1 (some (b + 57))))))), .inr (4, [.int 24, .int 3, .int 3, .ref (b + 56)]), .inl (cT 0, 97, .inl (fun _ => 0)), .inr (4, [.int 24, .int 3, .int 3, .ref (b + 58)]), .inl (cT 0, 97, .inl (fun _ => 0)), .inl (cT 6, 2, .inr (.inr (.inr (.inr (va_up (va_up (fun _ => none) 0 (some (b + 60))) 1 (some (b + 62))))))), .inr (3, [.int 8, .int 2, .int 12, .ref (b + 61)]), .inl (cT 0, 25, .inl (fun _ => 0)), .inr (3, [.int 8, .int 2, .int 12, .ref (b + 63)]), .inl (cT 0, 25, .inl (fun _ => 0)), .inl (cT 7, 2, .inr (.inr (.inr (.inr (va_up (va_up (fun _ => none) 0 (some (b + 65))) 1 (some (b + 67))))))), .inr (1, [.int 5, .int 2, .int 17, .ref (b + 66)]), .inl (cT 0, 16, .inl (fun _ => 0)), .inr (1, [.int 5, .int 2, .int 17, .ref (b + 68)]), .inl (cT 0, 16, .inl (fun _ => 0)), .inl (cT 0, 4, .inl (fun _ => 0)), .inl (cT 1, 600, .inl (fun _ => 0))]) H := hP
  refine lv_dup hx hb dX11_init_40 rfl ?_
  refine lv_iconst (v := 2) hx hb dX11_init_41 (by decide) ?_
  refine gb_new (ci := 8) (fs := [.null, .null, .null, .null, .null, .null, .int 0, .int 0, .int 0]) (C := RX10) (T := TX10) (N := 9) hx hb hq i_X10 tyX10 tyX10_ok hown (hq _ w_30) (hq _ w_31) (hq _ w_2) hK hP hS 71 hz rfl rfl (fun j hj => by rcases (show j = 0 ∨ j = 1 ∨ j = 2 ∨ j = 3 ∨ j = 4 ∨ j = 5 ∨ j = 6 ∨ j = 7 ∨ j = 8 by omega) with rfl | rfl | rfl | rfl | rfl | rfl | rfl | rfl | rfl <;> rfl) (Nat.le_of_ble_eq_true rfl) (Nat.le_of_ble_eq_true rfl) dX11_init_42 (fun H hP hz hS => ?_)
  have hP : va_P D vwCl (gb_wl b [.inr (9, [.ref (b + 1), .null, .null, .null, .null, .null, .null, .null, .null, .int 0]), .inr (8, [.ref (b + 2), .ref (b + 7), .ref (b + 12), .ref (b + 17), .ref (b + 22), .ref (b + 23), .int 0, .int 0, .int (-1)]), .inl (cT 4, 2, .inr (.inr (.inr (.inr (va_up (va_up (fun _ => none) 0 (some (b + 3))) 1 (some (b + 5))))))), .inr (0, [.ref (b + 4)]), .inl (cT 0, 58, .inl (upd (fun _ => 0) 2 (-1))), .inr (0, [.ref (b + 6)]), .inl (cT 0, 58, .inl (upd (fun _ => 0) 2 (-1))), .inl (cT 5, 2, .inr (.inr (.inr (.inr (va_up (va_up (fun _ => none) 0 (some (b + 8))) 1 (some (b + 10))))))), .inr (4, [.int 24, .int 3, .int 3, .ref (b + 9)]), .inl (cT 0, 97, .inl (fun _ => 0)), .inr (4, [.int 24, .int 3, .int 3, .ref (b + 11)]), .inl (cT 0, 97, .inl (fun _ => 0)), .inl (cT 6, 2, .inr (.inr (.inr (.inr (va_up (va_up (fun _ => none) 0 (some (b + 13))) 1 (some (b + 15))))))), .inr (3, [.int 8, .int 2, .int 12, .ref (b + 14)]), .inl (cT 0, 25, .inl (fun _ => 0)), .inr (3, [.int 8, .int 2, .int 12, .ref (b + 16)]), .inl (cT 0, 25, .inl (fun _ => 0)), .inl (cT 7, 2, .inr (.inr (.inr (.inr (va_up (va_up (fun _ => none) 0 (some (b + 18))) 1 (some (b + 20))))))), .inr (1, [.int 5, .int 2, .int 17, .ref (b + 19)]), .inl (cT 0, 16, .inl (fun _ => 0)), .inr (1, [.int 5, .int 2, .int 17, .ref (b + 21)]), .inl (cT 0, 16, .inl (fun _ => 0)), .inl (cT 0, 4, .inl (fun _ => 0)), .inl (cT 1, 600, .inl (fun _ => 0)), .inl (cT 8, 3, .inr (.inr (.inr (.inr (va_up (va_up (fun _ => none) 0 (some (b + 25))) 1 (some (b + 48))))))), .inr (8, [.ref (b + 26), .ref (b + 31), .ref (b + 36), .ref (b + 41), .ref (b + 46), .ref (b + 47), .int 0, .int 0, .int (-1)]), .inl (cT 4, 2, .inr (.inr (.inr (.inr (va_up (va_up (fun _ => none) 0 (some (b + 27))) 1 (some (b + 29))))))), .inr (0, [.ref (b + 28)]), .inl (cT 0, 58, .inl (upd (fun _ => 0) 2 (-1))), .inr (0, [.ref (b + 30)]), .inl (cT 0, 58, .inl (upd (fun _ => 0) 2 (-1))), .inl (cT 5, 2, .inr (.inr (.inr (.inr (va_up (va_up (fun _ => none) 0 (some (b + 32))) 1 (some (b + 34))))))), .inr (4, [.int 24, .int 3, .int 3, .ref (b + 33)]), .inl (cT 0, 97, .inl (fun _ => 0)), .inr (4, [.int 24, .int 3, .int 3, .ref (b + 35)]), .inl (cT 0, 97, .inl (fun _ => 0)), .inl (cT 6, 2, .inr (.inr (.inr (.inr (va_up (va_up (fun _ => none) 0 (some (b + 37))) 1 (some (b + 39))))))), .inr (3, [.int 8, .int 2, .int 12, .ref (b + 38)]), .inl (cT 0, 25, .inl (fun _ => 0)), .inr (3, [.int 8, .int 2, .int 12, .ref (b + 40)]), .inl (cT 0, 25, .inl (fun _ => 0)), .inl (cT 7, 2, .inr (.inr (.inr (.inr (va_up (va_up (fun _ => none) 0 (some (b + 42))) 1 (some (b + 44))))))), .inr (1, [.int 5, .int 2, .int 17, .ref (b + 43)]), .inl (cT 0, 16, .inl (fun _ => 0)), .inr (1, [.int 5, .int 2, .int 17, .ref (b + 45)]), .inl (cT 0, 16, .inl (fun _ => 0)), .inl (cT 0, 4, .inl (fun _ => 0)), .inl (cT 1, 600, .inl (fun _ => 0)), .inr (8, [.ref (b + 49), .ref (b + 54), .ref (b + 59), .ref (b + 64), .ref (b + 69), .ref (b + 70), .int 0, .int 0, .int (-1)]), .inl (cT 4, 2, .inr (.inr (.inr (.inr (va_up (va_up (fun _ => none) 0 (some (b + 50))) 1 (some (b + 52))))))), .inr (0, [.ref (b + 51)]), .inl (cT 0, 58, .inl (upd (fun _ => 0) 2 (-1))), .inr (0, [.ref (b + 53)]), .inl (cT 0, 58, .inl (upd (fun _ => 0) 2 (-1))), .inl (cT 5, 2, .inr (.inr (.inr (.inr (va_up (va_up (fun _ => none) 0 (some (b + 55))) 1 (some (b + 57))))))), .inr (4, [.int 24, .int 3, .int 3, .ref (b + 56)]), .inl (cT 0, 97, .inl (fun _ => 0)), .inr (4, [.int 24, .int 3, .int 3, .ref (b + 58)]), .inl (cT 0, 97, .inl (fun _ => 0)), .inl (cT 6, 2, .inr (.inr (.inr (.inr (va_up (va_up (fun _ => none) 0 (some (b + 60))) 1 (some (b + 62))))))), .inr (3, [.int 8, .int 2, .int 12, .ref (b + 61)]), .inl (cT 0, 25, .inl (fun _ => 0)), .inr (3, [.int 8, .int 2, .int 12, .ref (b + 63)]), .inl (cT 0, 25, .inl (fun _ => 0)), .inl (cT 7, 2, .inr (.inr (.inr (.inr (va_up (va_up (fun _ => none) 0 (some (b + 65))) 1 (some (b + 67))))))), .inr (1, [.int 5, .int 2, .int 17, .ref (b + 66)]), .inl (cT 0, 16, .inl (fun _ => 0)), .inr (1, [.int 5, .int 2, .int 17, .ref (b + 68)]), .inl (cT 0, 16, .inl (fun _ => 0)), .inl (cT 0, 4, .inl (fun _ => 0)), .inl (cT 1, 600, .inl (fun _ => 0)), .inr (8, [.null, .null, .null, .null, .null, .null, .int 0, .int 0, .int 0])]) H := hP
  refine W.widen (k := 71) (n := 3129) (Nat.le_of_ble_eq_true rfl) (Nat.le_of_ble_eq_true rfl) ?_
  refine lv_dup hx hb dX11_init_45 rfl ?_
  have hPc := gb_drop hP 71 (suf := [.inr (8, [.null, .null, .null, .null, .null, .null, .int 0, .int 0, .int 0])]) rfl rfl
  refine gb_callv (va_runIN (As := []) (rest := [.ref (b + 71), .int 2, .ref (b + 24), .ref (b + 24), .ref (b + 0)]) ⟨hx, hb, hml, hown, hq⟩ (k_X10_init l D cT tt b1 (b + 71) (Nat.le_trans hb1 (Nat.le_add_right b 71))) (⟨va_cnB 0 hq (gb_gI w_34) rfl rfl rfl (hSt.2.1 _ gb_n32) (hq _ w_2) (by decide +kernel) ⟨Nat.le_of_ble_eq_true rfl, Nat.le_of_ble_eq_true rfl⟩, rfl, hq _ w_33⟩) (gb_preS hSt hS (fun q h => Nat.le_trans hb1 h) (show va_P D vwCl (gb_wl (b + 71) [.inr (8, [.null, .null, .null, .null, .null, .null, .int 0, .int 0, .int 0])]) H ∧ Array.size H = b + 71 + 1 from ⟨hPc, hz⟩)) rfl rfl hl.1 rfl (lv_room (Nat.le_of_ble_eq_true rfl)) dX11_init_46 ⟨Nat.le_of_ble_eq_true rfl, Nat.le_of_ble_eq_true rfl⟩) hS (fun q h => Nat.le_trans (Nat.le_add_right b 71) h) (fun q h => Nat.le_trans (Nat.le_add_right b 71) h) (fun H locs hY hk hS => ?_)
  have hP := gb_glue hP 71 (pre := [.inr (9, [.ref (b + 1), .null, .null, .null, .null, .null, .null, .null, .null, .int 0]), .inr (8, [.ref (b + 2), .ref (b + 7), .ref (b + 12), .ref (b + 17), .ref (b + 22), .ref (b + 23), .int 0, .int 0, .int (-1)]), .inl (cT 4, 2, .inr (.inr (.inr (.inr (va_up (va_up (fun _ => none) 0 (some (b + 3))) 1 (some (b + 5))))))), .inr (0, [.ref (b + 4)]), .inl (cT 0, 58, .inl (upd (fun _ => 0) 2 (-1))), .inr (0, [.ref (b + 6)]), .inl (cT 0, 58, .inl (upd (fun _ => 0) 2 (-1))), .inl (cT 5, 2, .inr (.inr (.inr (.inr (va_up (va_up (fun _ => none) 0 (some (b + 8))) 1 (some (b + 10))))))), .inr (4, [.int 24, .int 3, .int 3, .ref (b + 9)]), .inl (cT 0, 97, .inl (fun _ => 0)), .inr (4, [.int 24, .int 3, .int 3, .ref (b + 11)]), .inl (cT 0, 97, .inl (fun _ => 0)), .inl (cT 6, 2, .inr (.inr (.inr (.inr (va_up (va_up (fun _ => none) 0 (some (b + 13))) 1 (some (b + 15))))))), .inr (3, [.int 8, .int 2, .int 12, .ref (b + 14)]), .inl (cT 0, 25, .inl (fun _ => 0)), .inr (3, [.int 8, .int 2, .int 12, .ref (b + 16)]), .inl (cT 0, 25, .inl (fun _ => 0)), .inl (cT 7, 2, .inr (.inr (.inr (.inr (va_up (va_up (fun _ => none) 0 (some (b + 18))) 1 (some (b + 20))))))), .inr (1, [.int 5, .int 2, .int 17, .ref (b + 19)]), .inl (cT 0, 16, .inl (fun _ => 0)), .inr (1, [.int 5, .int 2, .int 17, .ref (b + 21)]), .inl (cT 0, 16, .inl (fun _ => 0)), .inl (cT 0, 4, .inl (fun _ => 0)), .inl (cT 1, 600, .inl (fun _ => 0)), .inl (cT 8, 3, .inr (.inr (.inr (.inr (va_up (va_up (fun _ => none) 0 (some (b + 25))) 1 (some (b + 48))))))), .inr (8, [.ref (b + 26), .ref (b + 31), .ref (b + 36), .ref (b + 41), .ref (b + 46), .ref (b + 47), .int 0, .int 0, .int (-1)]), .inl (cT 4, 2, .inr (.inr (.inr (.inr (va_up (va_up (fun _ => none) 0 (some (b + 27))) 1 (some (b + 29))))))), .inr (0, [.ref (b + 28)]), .inl (cT 0, 58, .inl (upd (fun _ => 0) 2 (-1))), .inr (0, [.ref (b + 30)]), .inl (cT 0, 58, .inl (upd (fun _ => 0) 2 (-1))), .inl (cT 5, 2, .inr (.inr (.inr (.inr (va_up (va_up (fun _ => none) 0 (some (b + 32))) 1 (some (b + 34))))))), .inr (4, [.int 24, .int 3, .int 3, .ref (b + 33)]), .inl (cT 0, 97, .inl (fun _ => 0)), .inr (4, [.int 24, .int 3, .int 3, .ref (b + 35)]), .inl (cT 0, 97, .inl (fun _ => 0)), .inl (cT 6, 2, .inr (.inr (.inr (.inr (va_up (va_up (fun _ => none) 0 (some (b + 37))) 1 (some (b + 39))))))), .inr (3, [.int 8, .int 2, .int 12, .ref (b + 38)]), .inl (cT 0, 25, .inl (fun _ => 0)), .inr (3, [.int 8, .int 2, .int 12, .ref (b + 40)]), .inl (cT 0, 25, .inl (fun _ => 0)), .inl (cT 7, 2, .inr (.inr (.inr (.inr (va_up (va_up (fun _ => none) 0 (some (b + 42))) 1 (some (b + 44))))))), .inr (1, [.int 5, .int 2, .int 17, .ref (b + 43)]), .inl (cT 0, 16, .inl (fun _ => 0)), .inr (1, [.int 5, .int 2, .int 17, .ref (b + 45)]), .inl (cT 0, 16, .inl (fun _ => 0)), .inl (cT 0, 4, .inl (fun _ => 0)), .inl (cT 1, 600, .inl (fun _ => 0)), .inr (8, [.ref (b + 49), .ref (b + 54), .ref (b + 59), .ref (b + 64), .ref (b + 69), .ref (b + 70), .int 0, .int 0, .int (-1)]), .inl (cT 4, 2, .inr (.inr (.inr (.inr (va_up (va_up (fun _ => none) 0 (some (b + 50))) 1 (some (b + 52))))))), .inr (0, [.ref (b + 51)]), .inl (cT 0, 58, .inl (upd (fun _ => 0) 2 (-1))), .inr (0, [.ref (b + 53)]), .inl (cT 0, 58, .inl (upd (fun _ => 0) 2 (-1))), .inl (cT 5, 2, .inr (.inr (.inr (.inr (va_up (va_up (fun _ => none) 0 (some (b + 55))) 1 (some (b + 57))))))), .inr (4, [.int 24, .int 3, .int 3, .ref (b + 56)]), .inl (cT 0, 97, .inl (fun _ => 0)), .inr (4, [.int 24, .int 3, .int 3, .ref (b + 58)]), .inl (cT 0, 97, .inl (fun _ => 0)), .inl (cT 6, 2, .inr (.inr (.inr (.inr (va_up (va_up (fun _ => none) 0 (some (b + 60))) 1 (some (b + 62))))))), .inr (3, [.int 8, .int 2, .int 12, .ref (b + 61)]), .inl (cT 0, 25, .inl (fun _ => 0)), .inr (3, [.int 8, .int 2, .int 12, .ref (b + 63)]), .inl (cT 0, 25, .inl (fun _ => 0)), .inl (cT 7, 2, .inr (.inr (.inr (.inr (va_up (va_up (fun _ => none) 0 (some (b + 65))) 1 (some (b + 67))))))), .inr (1, [.int 5, .int 2, .int 17, .ref (b + 66)]), .inl (cT 0, 16, .inl (fun _ => 0)), .inr (1, [.int 5, .int 2, .int 17, .ref (b + 68)]), .inl (cT 0, 16, .inl (fun _ => 0)), .inl (cT 0, 4, .inl (fun _ => 0)), .inl (cT 1, 600, .inl (fun _ => 0))]) rfl rfl hk hY.1
  have hP : va_P D vwCl (gb_wl b [.inr (9, [.ref (b + 1), .null, .null, .null, .null, .null, .null, .null, .null, .int 0]), .inr (8, [.ref (b + 2), .ref (b + 7), .ref (b + 12), .ref (b + 17), .ref (b + 22), .ref (b + 23), .int 0, .int 0, .int (-1)]), .inl (cT 4, 2, .inr (.inr (.inr (.inr (va_up (va_up (fun _ => none) 0 (some (b + 3))) 1 (some (b + 5))))))), .inr (0, [.ref (b + 4)]), .inl (cT 0, 58, .inl (upd (fun _ => 0) 2 (-1))), .inr (0, [.ref (b + 6)]), .inl (cT 0, 58, .inl (upd (fun _ => 0) 2 (-1))), .inl (cT 5, 2, .inr (.inr (.inr (.inr (va_up (va_up (fun _ => none) 0 (some (b + 8))) 1 (some (b + 10))))))), .inr (4, [.int 24, .int 3, .int 3, .ref (b + 9)]), .inl (cT 0, 97, .inl (fun _ => 0)), .inr (4, [.int 24, .int 3, .int 3, .ref (b + 11)]), .inl (cT 0, 97, .inl (fun _ => 0)), .inl (cT 6, 2, .inr (.inr (.inr (.inr (va_up (va_up (fun _ => none) 0 (some (b + 13))) 1 (some (b + 15))))))), .inr (3, [.int 8, .int 2, .int 12, .ref (b + 14)]), .inl (cT 0, 25, .inl (fun _ => 0)), .inr (3, [.int 8, .int 2, .int 12, .ref (b + 16)]), .inl (cT 0, 25, .inl (fun _ => 0)), .inl (cT 7, 2, .inr (.inr (.inr (.inr (va_up (va_up (fun _ => none) 0 (some (b + 18))) 1 (some (b + 20))))))), .inr (1, [.int 5, .int 2, .int 17, .ref (b + 19)]), .inl (cT 0, 16, .inl (fun _ => 0)), .inr (1, [.int 5, .int 2, .int 17, .ref (b + 21)]), .inl (cT 0, 16, .inl (fun _ => 0)), .inl (cT 0, 4, .inl (fun _ => 0)), .inl (cT 1, 600, .inl (fun _ => 0)), .inl (cT 8, 3, .inr (.inr (.inr (.inr (va_up (va_up (fun _ => none) 0 (some (b + 25))) 1 (some (b + 48))))))), .inr (8, [.ref (b + 26), .ref (b + 31), .ref (b + 36), .ref (b + 41), .ref (b + 46), .ref (b + 47), .int 0, .int 0, .int (-1)]), .inl (cT 4, 2, .inr (.inr (.inr (.inr (va_up (va_up (fun _ => none) 0 (some (b + 27))) 1 (some (b + 29))))))), .inr (0, [.ref (b + 28)]), .inl (cT 0, 58, .inl (upd (fun _ => 0) 2 (-1))), .inr (0, [.ref (b + 30)]), .inl (cT 0, 58, .inl (upd (fun _ => 0) 2 (-1))), .inl (cT 5, 2, .inr (.inr (.inr (.inr (va_up (va_up (fun _ => none) 0 (some (b + 32))) 1 (some (b + 34))))))), .inr (4, [.int 24, .int 3, .int 3, .ref (b + 33)]), .inl (cT 0, 97, .inl (fun _ => 0)), .inr (4, [.int 24, .int 3, .int 3, .ref (b + 35)]), .inl (cT 0, 97, .inl (fun _ => 0)), .inl (cT 6, 2, .inr (.inr (.inr (.inr (va_up (va_up (fun _ => none) 0 (some (b + 37))) 1 (some (b + 39))))))), .inr (3, [.int 8, .int 2, .int 12, .ref (b + 38)]), .inl (cT 0, 25, .inl (fun _ => 0)), .inr (3, [.int 8, .int 2, .int 12, .ref (b + 40)]), .inl (cT 0, 25, .inl (fun _ => 0)), .inl (cT 7, 2, .inr (.inr (.inr (.inr (va_up (va_up (fun _ => none) 0 (some (b + 42))) 1 (some (b + 44))))))), .inr (1, [.int 5, .int 2, .int 17, .ref (b + 43)]), .inl (cT 0, 16, .inl (fun _ => 0)), .inr (1, [.int 5, .int 2, .int 17, .ref (b + 45)]), .inl (cT 0, 16, .inl (fun _ => 0)), .inl (cT 0, 4, .inl (fun _ => 0)), .inl (cT 1, 600, .inl (fun _ => 0)), .inr (8, [.ref (b + 49), .ref (b + 54), .ref (b + 59), .ref (b + 64), .ref (b + 69), .ref (b + 70), .int 0, .int 0, .int (-1)]), .inl (cT 4, 2, .inr (.inr (.inr (.inr (va_up (va_up (fun _ => none) 0 (some (b + 50))) 1 (some (b + 52))))))), .inr (0, [.ref (b + 51)]), .inl (cT 0, 58, .inl (upd (fun _ => 0) 2 (-1))), .inr (0, [.ref (b + 53)]), .inl (cT 0, 58, .inl (upd (fun _ => 0) 2 (-1))), .inl (cT 5, 2, .inr (.inr (.inr (.inr (va_up (va_up (fun _ => none) 0 (some (b + 55))) 1 (some (b + 57))))))), .inr (4, [.int 24, .int 3, .int 3, .ref (b + 56)]), .inl (cT 0, 97, .inl (fun _ => 0)), .inr (4, [.int 24, .int 3, .int 3, .ref (b + 58)]), .inl (cT 0, 97, .inl (fun _ => 0)), .inl (cT 6, 2, .inr (.inr (.inr (.inr (va_up (va_up (fun _ => none) 0 (some (b + 60))) 1 (some (b + 62))))))), .inr (3, [.int 8, .int 2, .int 12, .ref (b + 61)]), .inl (cT 0, 25, .inl (fun _ => 0)), .inr (3, [.int 8, .int 2, .int 12, .ref (b + 63)]), .inl (cT 0, 25, .inl (fun _ => 0)), .inl (cT 7, 2, .inr (.inr (.inr (.inr (va_up (va_up (fun _ => none) 0 (some (b + 65))) 1 (some (b + 67))))))), .inr (1, [.int 5, .int 2, .int 17, .ref (b + 66)]), .inl (cT 0, 16, .inl (fun _ => 0)), .inr (1, [.int 5, .int 2, .int 17, .ref (b + 68)]), .inl (cT 0, 16, .inl (fun _ => 0)), .inl (cT 0, 4, .inl (fun _ => 0)), .inl (cT 1, 600, .inl (fun _ => 0)), .inr (8, [.ref (b + 72), .ref (b + 77), .ref (b + 82), .ref (b + 87), .ref (b + 92), .ref (b + 93), .int 0, .int 0, .int (-1)]), .inl (cT 4, 2, .inr (.inr (.inr (.inr (va_up (va_up (fun _ => none) 0 (some (b + 73))) 1 (some (b + 75))))))), .inr (0, [.ref (b + 74)]), .inl (cT 0, 58, .inl (upd (fun _ => 0) 2 (-1))), .inr (0, [.ref (b + 76)]), .inl (cT 0, 58, .inl (upd (fun _ => 0) 2 (-1))), .inl (cT 5, 2, .inr (.inr (.inr (.inr (va_up (va_up (fun _ => none) 0 (some (b + 78))) 1 (some (b + 80))))))), .inr (4, [.int 24, .int 3, .int 3, .ref (b + 79)]), .inl (cT 0, 97, .inl (fun _ => 0)), .inr (4, [.int 24, .int 3, .int 3, .ref (b + 81)]), .inl (cT 0, 97, .inl (fun _ => 0)), .inl (cT 6, 2, .inr (.inr (.inr (.inr (va_up (va_up (fun _ => none) 0 (some (b + 83))) 1 (some (b + 85))))))), .inr (3, [.int 8, .int 2, .int 12, .ref (b + 84)]), .inl (cT 0, 25, .inl (fun _ => 0)), .inr (3, [.int 8, .int 2, .int 12, .ref (b + 86)]), .inl (cT 0, 25, .inl (fun _ => 0)), .inl (cT 7, 2, .inr (.inr (.inr (.inr (va_up (va_up (fun _ => none) 0 (some (b + 88))) 1 (some (b + 90))))))), .inr (1, [.int 5, .int 2, .int 17, .ref (b + 89)]), .inl (cT 0, 16, .inl (fun _ => 0)), .inr (1, [.int 5, .int 2, .int 17, .ref (b + 91)]), .inl (cT 0, 16, .inl (fun _ => 0)), .inl (cT 0, 4, .inl (fun _ => 0)), .inl (cT 1, 600, .inl (fun _ => 0))]) H := hP
  have hz : Array.size H = b + 94 := hY.2
  refine W.widen (k := 93) (n := 4159) (Nat.le_of_ble_eq_true rfl) (Nat.le_of_ble_eq_true rfl) ?_
  refine gb_astq (E := "GooseBorder$Told") hx hb hK hP (fun k _ => Nat.le_add_right b k) hS hz 24 8 71 8 rfl rfl (Or.inl rfl) rfl rfl (gb_in rfl) dX11_init_49 (fun H locs hP hz hS => ?_)
  have hP : va_P D vwCl (gb_wl b [.inr (9, [.ref (b + 1), .null, .null, .null, .null, .null, .null, .null, .null, .int 0]), .inr (8, [.ref (b + 2), .ref (b + 7), .ref (b + 12), .ref (b + 17), .ref (b + 22), .ref (b + 23), .int 0, .int 0, .int (-1)]), .inl (cT 4, 2, .inr (.inr (.inr (.inr (va_up (va_up (fun _ => none) 0 (some (b + 3))) 1 (some (b + 5))))))), .inr (0, [.ref (b + 4)]), .inl (cT 0, 58, .inl (upd (fun _ => 0) 2 (-1))), .inr (0, [.ref (b + 6)]), .inl (cT 0, 58, .inl (upd (fun _ => 0) 2 (-1))), .inl (cT 5, 2, .inr (.inr (.inr (.inr (va_up (va_up (fun _ => none) 0 (some (b + 8))) 1 (some (b + 10))))))), .inr (4, [.int 24, .int 3, .int 3, .ref (b + 9)]), .inl (cT 0, 97, .inl (fun _ => 0)), .inr (4, [.int 24, .int 3, .int 3, .ref (b + 11)]), .inl (cT 0, 97, .inl (fun _ => 0)), .inl (cT 6, 2, .inr (.inr (.inr (.inr (va_up (va_up (fun _ => none) 0 (some (b + 13))) 1 (some (b + 15))))))), .inr (3, [.int 8, .int 2, .int 12, .ref (b + 14)]), .inl (cT 0, 25, .inl (fun _ => 0)), .inr (3, [.int 8, .int 2, .int 12, .ref (b + 16)]), .inl (cT 0, 25, .inl (fun _ => 0)), .inl (cT 7, 2, .inr (.inr (.inr (.inr (va_up (va_up (fun _ => none) 0 (some (b + 18))) 1 (some (b + 20))))))), .inr (1, [.int 5, .int 2, .int 17, .ref (b + 19)]), .inl (cT 0, 16, .inl (fun _ => 0)), .inr (1, [.int 5, .int 2, .int 17, .ref (b + 21)]), .inl (cT 0, 16, .inl (fun _ => 0)), .inl (cT 0, 4, .inl (fun _ => 0)), .inl (cT 1, 600, .inl (fun _ => 0)), .inl (cT 8, 3, .inr (.inr (.inr (.inr (va_up (va_up (va_up (fun _ => none) 0 (some (b + 25))) 1 (some (b + 48))) 2 (some (b + 71))))))), .inr (8, [.ref (b + 26), .ref (b + 31), .ref (b + 36), .ref (b + 41), .ref (b + 46), .ref (b + 47), .int 0, .int 0, .int (-1)]), .inl (cT 4, 2, .inr (.inr (.inr (.inr (va_up (va_up (fun _ => none) 0 (some (b + 27))) 1 (some (b + 29))))))), .inr (0, [.ref (b + 28)]), .inl (cT 0, 58, .inl (upd (fun _ => 0) 2 (-1))), .inr (0, [.ref (b + 30)]), .inl (cT 0, 58, .inl (upd (fun _ => 0) 2 (-1))), .inl (cT 5, 2, .inr (.inr (.inr (.inr (va_up (va_up (fun _ => none) 0 (some (b + 32))) 1 (some (b + 34))))))), .inr (4, [.int 24, .int 3, .int 3, .ref (b + 33)]), .inl (cT 0, 97, .inl (fun _ => 0)), .inr (4, [.int 24, .int 3, .int 3, .ref (b + 35)]), .inl (cT 0, 97, .inl (fun _ => 0)), .inl (cT 6, 2, .inr (.inr (.inr (.inr (va_up (va_up (fun _ => none) 0 (some (b + 37))) 1 (some (b + 39))))))), .inr (3, [.int 8, .int 2, .int 12, .ref (b + 38)]), .inl (cT 0, 25, .inl (fun _ => 0)), .inr (3, [.int 8, .int 2, .int 12, .ref (b + 40)]), .inl (cT 0, 25, .inl (fun _ => 0)), .inl (cT 7, 2, .inr (.inr (.inr (.inr (va_up (va_up (fun _ => none) 0 (some (b + 42))) 1 (some (b + 44))))))), .inr (1, [.int 5, .int 2, .int 17, .ref (b + 43)]), .inl (cT 0, 16, .inl (fun _ => 0)), .inr (1, [.int 5, .int 2, .int 17, .ref (b + 45)]), .inl (cT 0, 16, .inl (fun _ => 0)), .inl (cT 0, 4, .inl (fun _ => 0)), .inl (cT 1, 600, .inl (fun _ => 0)), .inr (8, [.ref (b + 49), .ref (b + 54), .ref (b + 59), .ref (b + 64), .ref (b + 69), .ref (b + 70), .int 0, .int 0, .int (-1)]), .inl (cT 4, 2, .inr (.inr (.inr (.inr (va_up (va_up (fun _ => none) 0 (some (b + 50))) 1 (some (b + 52))))))), .inr (0, [.ref (b + 51)]), .inl (cT 0, 58, .inl (upd (fun _ => 0) 2 (-1))), .inr (0, [.ref (b + 53)]), .inl (cT 0, 58, .inl (upd (fun _ => 0) 2 (-1))), .inl (cT 5, 2, .inr (.inr (.inr (.inr (va_up (va_up (fun _ => none) 0 (some (b + 55))) 1 (some (b + 57))))))), .inr (4, [.int 24, .int 3, .int 3, .ref (b + 56)]), .inl (cT 0, 97, .inl (fun _ => 0)), .inr (4, [.int 24, .int 3, .int 3, .ref (b + 58)]), .inl (cT 0, 97, .inl (fun _ => 0)), .inl (cT 6, 2, .inr (.inr (.inr (.inr (va_up (va_up (fun _ => none) 0 (some (b + 60))) 1 (some (b + 62))))))), .inr (3, [.int 8, .int 2, .int 12, .ref (b + 61)]), .inl (cT 0, 25, .inl (fun _ => 0)), .inr (3, [.int 8, .int 2, .int 12, .ref (b + 63)]), .inl (cT 0, 25, .inl (fun _ => 0)), .inl (cT 7, 2, .inr (.inr (.inr (.inr (va_up (va_up (fun _ => none) 0 (some (b + 65))) 1 (some (b + 67))))))), .inr (1, [.int 5, .int 2, .int 17, .ref (b + 66)]), .inl (cT 0, 16, .inl (fun _ => 0)), .inr (1, [.int 5, .int 2, .int 17, .ref (b + 68)]), .inl (cT 0, 16, .inl (fun _ => 0)), .inl (cT 0, 4, .inl (fun _ => 0)), .inl (cT 1, 600, .inl (fun _ => 0)), .inr (8, [.ref (b + 72), .ref (b + 77), .ref (b + 82), .ref (b + 87), .ref (b + 92), .ref (b + 93), .int 0, .int 0, .int (-1)]), .inl (cT 4, 2, .inr (.inr (.inr (.inr (va_up (va_up (fun _ => none) 0 (some (b + 73))) 1 (some (b + 75))))))), .inr (0, [.ref (b + 74)]), .inl (cT 0, 58, .inl (upd (fun _ => 0) 2 (-1))), .inr (0, [.ref (b + 76)]), .inl (cT 0, 58, .inl (upd (fun _ => 0) 2 (-1))), .inl (cT 5, 2, .inr (.inr (.inr (.inr (va_up (va_up (fun _ => none) 0 (some (b + 78))) 1 (some (b + 80))))))), .inr (4, [.int 24, .int 3, .int 3, .ref (b + 79)]), .inl (cT 0, 97, .inl (fun _ => 0)), .inr (4, [.int 24, .int 3, .int 3, .ref (b + 81)]), .inl (cT 0, 97, .inl (fun _ => 0)), .inl (cT 6, 2, .inr (.inr (.inr (.inr (va_up (va_up (fun _ => none) 0 (some (b + 83))) 1 (some (b + 85))))))), .inr (3, [.int 8, .int 2, .int 12, .ref (b + 84)]), .inl (cT 0, 25, .inl (fun _ => 0)), .inr (3, [.int 8, .int 2, .int 12, .ref (b + 86)]), .inl (cT 0, 25, .inl (fun _ => 0)), .inl (cT 7, 2, .inr (.inr (.inr (.inr (va_up (va_up (fun _ => none) 0 (some (b + 88))) 1 (some (b + 90))))))), .inr (1, [.int 5, .int 2, .int 17, .ref (b + 89)]), .inl (cT 0, 16, .inl (fun _ => 0)), .inr (1, [.int 5, .int 2, .int 17, .ref (b + 91)]), .inl (cT 0, 16, .inl (fun _ => 0)), .inl (cT 0, 4, .inl (fun _ => 0)), .inl (cT 1, 600, .inl (fun _ => 0))]) H := hP
  refine gb_putF (ci := 9) (v := (.ref (b + 24))) (ty := .array (.object "GooseBorder$Told")) (C := RX11) (T := TX11) (N := 10) hx hb hq i_X11 tyX11 tyX11_ok nmX11 hown hK hP (fun k _ => Nat.le_add_right b k) hS hz 0 rfl rfl 1 (by decide) (hq _ w_316) (fun _ h9 => h9) rfl hin rfl (by decide +kernel) rfl rfl (Nat.le_of_ble_eq_true rfl) dX11_init_50 (fun H locs hP hz hS => ?_)
  have hP : va_P D vwCl (gb_wl b [.inr (9, [.ref (b + 1), .ref (b + 24), .null, .null, .null, .null, .null, .null, .null, .int 0]), .inr (8, [.ref (b + 2), .ref (b + 7), .ref (b + 12), .ref (b + 17), .ref (b + 22), .ref (b + 23), .int 0, .int 0, .int (-1)]), .inl (cT 4, 2, .inr (.inr (.inr (.inr (va_up (va_up (fun _ => none) 0 (some (b + 3))) 1 (some (b + 5))))))), .inr (0, [.ref (b + 4)]), .inl (cT 0, 58, .inl (upd (fun _ => 0) 2 (-1))), .inr (0, [.ref (b + 6)]), .inl (cT 0, 58, .inl (upd (fun _ => 0) 2 (-1))), .inl (cT 5, 2, .inr (.inr (.inr (.inr (va_up (va_up (fun _ => none) 0 (some (b + 8))) 1 (some (b + 10))))))), .inr (4, [.int 24, .int 3, .int 3, .ref (b + 9)]), .inl (cT 0, 97, .inl (fun _ => 0)), .inr (4, [.int 24, .int 3, .int 3, .ref (b + 11)]), .inl (cT 0, 97, .inl (fun _ => 0)), .inl (cT 6, 2, .inr (.inr (.inr (.inr (va_up (va_up (fun _ => none) 0 (some (b + 13))) 1 (some (b + 15))))))), .inr (3, [.int 8, .int 2, .int 12, .ref (b + 14)]), .inl (cT 0, 25, .inl (fun _ => 0)), .inr (3, [.int 8, .int 2, .int 12, .ref (b + 16)]), .inl (cT 0, 25, .inl (fun _ => 0)), .inl (cT 7, 2, .inr (.inr (.inr (.inr (va_up (va_up (fun _ => none) 0 (some (b + 18))) 1 (some (b + 20))))))), .inr (1, [.int 5, .int 2, .int 17, .ref (b + 19)]), .inl (cT 0, 16, .inl (fun _ => 0)), .inr (1, [.int 5, .int 2, .int 17, .ref (b + 21)]), .inl (cT 0, 16, .inl (fun _ => 0)), .inl (cT 0, 4, .inl (fun _ => 0)), .inl (cT 1, 600, .inl (fun _ => 0)), .inl (cT 8, 3, .inr (.inr (.inr (.inr (va_up (va_up (va_up (fun _ => none) 0 (some (b + 25))) 1 (some (b + 48))) 2 (some (b + 71))))))), .inr (8, [.ref (b + 26), .ref (b + 31), .ref (b + 36), .ref (b + 41), .ref (b + 46), .ref (b + 47), .int 0, .int 0, .int (-1)]), .inl (cT 4, 2, .inr (.inr (.inr (.inr (va_up (va_up (fun _ => none) 0 (some (b + 27))) 1 (some (b + 29))))))), .inr (0, [.ref (b + 28)]), .inl (cT 0, 58, .inl (upd (fun _ => 0) 2 (-1))), .inr (0, [.ref (b + 30)]), .inl (cT 0, 58, .inl (upd (fun _ => 0) 2 (-1))), .inl (cT 5, 2, .inr (.inr (.inr (.inr (va_up (va_up (fun _ => none) 0 (some (b + 32))) 1 (some (b + 34))))))), .inr (4, [.int 24, .int 3, .int 3, .ref (b + 33)]), .inl (cT 0, 97, .inl (fun _ => 0)), .inr (4, [.int 24, .int 3, .int 3, .ref (b + 35)]), .inl (cT 0, 97, .inl (fun _ => 0)), .inl (cT 6, 2, .inr (.inr (.inr (.inr (va_up (va_up (fun _ => none) 0 (some (b + 37))) 1 (some (b + 39))))))), .inr (3, [.int 8, .int 2, .int 12, .ref (b + 38)]), .inl (cT 0, 25, .inl (fun _ => 0)), .inr (3, [.int 8, .int 2, .int 12, .ref (b + 40)]), .inl (cT 0, 25, .inl (fun _ => 0)), .inl (cT 7, 2, .inr (.inr (.inr (.inr (va_up (va_up (fun _ => none) 0 (some (b + 42))) 1 (some (b + 44))))))), .inr (1, [.int 5, .int 2, .int 17, .ref (b + 43)]), .inl (cT 0, 16, .inl (fun _ => 0)), .inr (1, [.int 5, .int 2, .int 17, .ref (b + 45)]), .inl (cT 0, 16, .inl (fun _ => 0)), .inl (cT 0, 4, .inl (fun _ => 0)), .inl (cT 1, 600, .inl (fun _ => 0)), .inr (8, [.ref (b + 49), .ref (b + 54), .ref (b + 59), .ref (b + 64), .ref (b + 69), .ref (b + 70), .int 0, .int 0, .int (-1)]), .inl (cT 4, 2, .inr (.inr (.inr (.inr (va_up (va_up (fun _ => none) 0 (some (b + 50))) 1 (some (b + 52))))))), .inr (0, [.ref (b + 51)]), .inl (cT 0, 58, .inl (upd (fun _ => 0) 2 (-1))), .inr (0, [.ref (b + 53)]), .inl (cT 0, 58, .inl (upd (fun _ => 0) 2 (-1))), .inl (cT 5, 2, .inr (.inr (.inr (.inr (va_up (va_up (fun _ => none) 0 (some (b + 55))) 1 (some (b + 57))))))), .inr (4, [.int 24, .int 3, .int 3, .ref (b + 56)]), .inl (cT 0, 97, .inl (fun _ => 0)), .inr (4, [.int 24, .int 3, .int 3, .ref (b + 58)]), .inl (cT 0, 97, .inl (fun _ => 0)), .inl (cT 6, 2, .inr (.inr (.inr (.inr (va_up (va_up (fun _ => none) 0 (some (b + 60))) 1 (some (b + 62))))))), .inr (3, [.int 8, .int 2, .int 12, .ref (b + 61)]), .inl (cT 0, 25, .inl (fun _ => 0)), .inr (3, [.int 8, .int 2, .int 12, .ref (b + 63)]), .inl (cT 0, 25, .inl (fun _ => 0)), .inl (cT 7, 2, .inr (.inr (.inr (.inr (va_up (va_up (fun _ => none) 0 (some (b + 65))) 1 (some (b + 67))))))), .inr (1, [.int 5, .int 2, .int 17, .ref (b + 66)]), .inl (cT 0, 16, .inl (fun _ => 0)), .inr (1, [.int 5, .int 2, .int 17, .ref (b + 68)]), .inl (cT 0, 16, .inl (fun _ => 0)), .inl (cT 0, 4, .inl (fun _ => 0)), .inl (cT 1, 600, .inl (fun _ => 0)), .inr (8, [.ref (b + 72), .ref (b + 77), .ref (b + 82), .ref (b + 87), .ref (b + 92), .ref (b + 93), .int 0, .int 0, .int (-1)]), .inl (cT 4, 2, .inr (.inr (.inr (.inr (va_up (va_up (fun _ => none) 0 (some (b + 73))) 1 (some (b + 75))))))), .inr (0, [.ref (b + 74)]), .inl (cT 0, 58, .inl (upd (fun _ => 0) 2 (-1))), .inr (0, [.ref (b + 76)]), .inl (cT 0, 58, .inl (upd (fun _ => 0) 2 (-1))), .inl (cT 5, 2, .inr (.inr (.inr (.inr (va_up (va_up (fun _ => none) 0 (some (b + 78))) 1 (some (b + 80))))))), .inr (4, [.int 24, .int 3, .int 3, .ref (b + 79)]), .inl (cT 0, 97, .inl (fun _ => 0)), .inr (4, [.int 24, .int 3, .int 3, .ref (b + 81)]), .inl (cT 0, 97, .inl (fun _ => 0)), .inl (cT 6, 2, .inr (.inr (.inr (.inr (va_up (va_up (fun _ => none) 0 (some (b + 83))) 1 (some (b + 85))))))), .inr (3, [.int 8, .int 2, .int 12, .ref (b + 84)]), .inl (cT 0, 25, .inl (fun _ => 0)), .inr (3, [.int 8, .int 2, .int 12, .ref (b + 86)]), .inl (cT 0, 25, .inl (fun _ => 0)), .inl (cT 7, 2, .inr (.inr (.inr (.inr (va_up (va_up (fun _ => none) 0 (some (b + 88))) 1 (some (b + 90))))))), .inr (1, [.int 5, .int 2, .int 17, .ref (b + 89)]), .inl (cT 0, 16, .inl (fun _ => 0)), .inr (1, [.int 5, .int 2, .int 17, .ref (b + 91)]), .inl (cT 0, 16, .inl (fun _ => 0)), .inl (cT 0, 4, .inl (fun _ => 0)), .inl (cT 1, 600, .inl (fun _ => 0))]) H := hP
  refine lv_aload_n hx hb dX11_init_53 rfl (lv_at hl 0 rfl) ?_
  refine lv_iconst (v := 3) hx hb dX11_init_54 (by decide) ?_
  refine gb_newa (atype := .boolean) (a0 := (3, .inl (fun _ => 0))) hx hb (hq _ w_188) (ty := .boolean) rfl hK hP hS 94 hz rfl 2 rfl (fun h => h) (fun _ => rfl) (by decide) (by decide) (Nat.le_of_ble_eq_true rfl) (Nat.le_of_ble_eq_true rfl) (Nat.le_of_ble_eq_true rfl) dX11_init_55 (fun H hP hz hS => ?_)
  have hP : va_P D vwCl (gb_wl b [.inr (9, [.ref (b + 1), .ref (b + 24), .null, .null, .null, .null, .null, .null, .null, .int 0]), .inr (8, [.ref (b + 2), .ref (b + 7), .ref (b + 12), .ref (b + 17), .ref (b + 22), .ref (b + 23), .int 0, .int 0, .int (-1)]), .inl (cT 4, 2, .inr (.inr (.inr (.inr (va_up (va_up (fun _ => none) 0 (some (b + 3))) 1 (some (b + 5))))))), .inr (0, [.ref (b + 4)]), .inl (cT 0, 58, .inl (upd (fun _ => 0) 2 (-1))), .inr (0, [.ref (b + 6)]), .inl (cT 0, 58, .inl (upd (fun _ => 0) 2 (-1))), .inl (cT 5, 2, .inr (.inr (.inr (.inr (va_up (va_up (fun _ => none) 0 (some (b + 8))) 1 (some (b + 10))))))), .inr (4, [.int 24, .int 3, .int 3, .ref (b + 9)]), .inl (cT 0, 97, .inl (fun _ => 0)), .inr (4, [.int 24, .int 3, .int 3, .ref (b + 11)]), .inl (cT 0, 97, .inl (fun _ => 0)), .inl (cT 6, 2, .inr (.inr (.inr (.inr (va_up (va_up (fun _ => none) 0 (some (b + 13))) 1 (some (b + 15))))))), .inr (3, [.int 8, .int 2, .int 12, .ref (b + 14)]), .inl (cT 0, 25, .inl (fun _ => 0)), .inr (3, [.int 8, .int 2, .int 12, .ref (b + 16)]), .inl (cT 0, 25, .inl (fun _ => 0)), .inl (cT 7, 2, .inr (.inr (.inr (.inr (va_up (va_up (fun _ => none) 0 (some (b + 18))) 1 (some (b + 20))))))), .inr (1, [.int 5, .int 2, .int 17, .ref (b + 19)]), .inl (cT 0, 16, .inl (fun _ => 0)), .inr (1, [.int 5, .int 2, .int 17, .ref (b + 21)]), .inl (cT 0, 16, .inl (fun _ => 0)), .inl (cT 0, 4, .inl (fun _ => 0)), .inl (cT 1, 600, .inl (fun _ => 0)), .inl (cT 8, 3, .inr (.inr (.inr (.inr (va_up (va_up (va_up (fun _ => none) 0 (some (b + 25))) 1 (some (b + 48))) 2 (some (b + 71))))))), .inr (8, [.ref (b + 26), .ref (b + 31), .ref (b + 36), .ref (b + 41), .ref (b + 46), .ref (b + 47), .int 0, .int 0, .int (-1)]), .inl (cT 4, 2, .inr (.inr (.inr (.inr (va_up (va_up (fun _ => none) 0 (some (b + 27))) 1 (some (b + 29))))))), .inr (0, [.ref (b + 28)]), .inl (cT 0, 58, .inl (upd (fun _ => 0) 2 (-1))), .inr (0, [.ref (b + 30)]), .inl (cT 0, 58, .inl (upd (fun _ => 0) 2 (-1))), .inl (cT 5, 2, .inr (.inr (.inr (.inr (va_up (va_up (fun _ => none) 0 (some (b + 32))) 1 (some (b + 34))))))), .inr (4, [.int 24, .int 3, .int 3, .ref (b + 33)]), .inl (cT 0, 97, .inl (fun _ => 0)), .inr (4, [.int 24, .int 3, .int 3, .ref (b + 35)]), .inl (cT 0, 97, .inl (fun _ => 0)), .inl (cT 6, 2, .inr (.inr (.inr (.inr (va_up (va_up (fun _ => none) 0 (some (b + 37))) 1 (some (b + 39))))))), .inr (3, [.int 8, .int 2, .int 12, .ref (b + 38)]), .inl (cT 0, 25, .inl (fun _ => 0)), .inr (3, [.int 8, .int 2, .int 12, .ref (b + 40)]), .inl (cT 0, 25, .inl (fun _ => 0)), .inl (cT 7, 2, .inr (.inr (.inr (.inr (va_up (va_up (fun _ => none) 0 (some (b + 42))) 1 (some (b + 44))))))), .inr (1, [.int 5, .int 2, .int 17, .ref (b + 43)]), .inl (cT 0, 16, .inl (fun _ => 0)), .inr (1, [.int 5, .int 2, .int 17, .ref (b + 45)]), .inl (cT 0, 16, .inl (fun _ => 0)), .inl (cT 0, 4, .inl (fun _ => 0)), .inl (cT 1, 600, .inl (fun _ => 0)), .inr (8, [.ref (b + 49), .ref (b + 54), .ref (b + 59), .ref (b + 64), .ref (b + 69), .ref (b + 70), .int 0, .int 0, .int (-1)]), .inl (cT 4, 2, .inr (.inr (.inr (.inr (va_up (va_up (fun _ => none) 0 (some (b + 50))) 1 (some (b + 52))))))), .inr (0, [.ref (b + 51)]), .inl (cT 0, 58, .inl (upd (fun _ => 0) 2 (-1))), .inr (0, [.ref (b + 53)]), .inl (cT 0, 58, .inl (upd (fun _ => 0) 2 (-1))), .inl (cT 5, 2, .inr (.inr (.inr (.inr (va_up (va_up (fun _ => none) 0 (some (b + 55))) 1 (some (b + 57))))))), .inr (4, [.int 24, .int 3, .int 3, .ref (b + 56)]), .inl (cT 0, 97, .inl (fun _ => 0)), .inr (4, [.int 24, .int 3, .int 3, .ref (b + 58)]), .inl (cT 0, 97, .inl (fun _ => 0)), .inl (cT 6, 2, .inr (.inr (.inr (.inr (va_up (va_up (fun _ => none) 0 (some (b + 60))) 1 (some (b + 62))))))), .inr (3, [.int 8, .int 2, .int 12, .ref (b + 61)]), .inl (cT 0, 25, .inl (fun _ => 0)), .inr (3, [.int 8, .int 2, .int 12, .ref (b + 63)]), .inl (cT 0, 25, .inl (fun _ => 0)), .inl (cT 7, 2, .inr (.inr (.inr (.inr (va_up (va_up (fun _ => none) 0 (some (b + 65))) 1 (some (b + 67))))))), .inr (1, [.int 5, .int 2, .int 17, .ref (b + 66)]), .inl (cT 0, 16, .inl (fun _ => 0)), .inr (1, [.int 5, .int 2, .int 17, .ref (b + 68)]), .inl (cT 0, 16, .inl (fun _ => 0)), .inl (cT 0, 4, .inl (fun _ => 0)), .inl (cT 1, 600, .inl (fun _ => 0)), .inr (8, [.ref (b + 72), .ref (b + 77), .ref (b + 82), .ref (b + 87), .ref (b + 92), .ref (b + 93), .int 0, .int 0, .int (-1)]), .inl (cT 4, 2, .inr (.inr (.inr (.inr (va_up (va_up (fun _ => none) 0 (some (b + 73))) 1 (some (b + 75))))))), .inr (0, [.ref (b + 74)]), .inl (cT 0, 58, .inl (upd (fun _ => 0) 2 (-1))), .inr (0, [.ref (b + 76)]), .inl (cT 0, 58, .inl (upd (fun _ => 0) 2 (-1))), .inl (cT 5, 2, .inr (.inr (.inr (.inr (va_up (va_up (fun _ => none) 0 (some (b + 78))) 1 (some (b + 80))))))), .inr (4, [.int 24, .int 3, .int 3, .ref (b + 79)]), .inl (cT 0, 97, .inl (fun _ => 0)), .inr (4, [.int 24, .int 3, .int 3, .ref (b + 81)]), .inl (cT 0, 97, .inl (fun _ => 0)), .inl (cT 6, 2, .inr (.inr (.inr (.inr (va_up (va_up (fun _ => none) 0 (some (b + 83))) 1 (some (b + 85))))))), .inr (3, [.int 8, .int 2, .int 12, .ref (b + 84)]), .inl (cT 0, 25, .inl (fun _ => 0)), .inr (3, [.int 8, .int 2, .int 12, .ref (b + 86)]), .inl (cT 0, 25, .inl (fun _ => 0)), .inl (cT 7, 2, .inr (.inr (.inr (.inr (va_up (va_up (fun _ => none) 0 (some (b + 88))) 1 (some (b + 90))))))), .inr (1, [.int 5, .int 2, .int 17, .ref (b + 89)]), .inl (cT 0, 16, .inl (fun _ => 0)), .inr (1, [.int 5, .int 2, .int 17, .ref (b + 91)]), .inl (cT 0, 16, .inl (fun _ => 0)), .inl (cT 0, 4, .inl (fun _ => 0)), .inl (cT 1, 600, .inl (fun _ => 0)), .inl (cT 2, 3, .inl (fun _ => 0))]) H := hP
  refine W.widen (k := 94) (n := 4162) (Nat.le_of_ble_eq_true rfl) (Nat.le_of_ble_eq_true rfl) ?_
  refine gb_putF (ci := 9) (v := (.ref (b + 94))) (ty := .array .boolean) (C := RX11) (T := TX11) (N := 10) hx hb hq i_X11 tyX11 tyX11_ok nmX11 hown hK hP (fun k _ => Nat.le_add_right b k) hS hz 0 rfl rfl 2 (by decide) (hq _ w_317) (fun _ h9 => h9) rfl hin rfl (by decide +kernel) rfl rfl (Nat.le_of_ble_eq_true rfl) dX11_init_57 (fun H locs hP hz hS => ?_)
  have hP : va_P D vwCl (gb_wl b [.inr (9, [.ref (b + 1), .ref (b + 24), .ref (b + 94), .null, .null, .null, .null, .null, .null, .int 0]), .inr (8, [.ref (b + 2), .ref (b + 7), .ref (b + 12), .ref (b + 17), .ref (b + 22), .ref (b + 23), .int 0, .int 0, .int (-1)]), .inl (cT 4, 2, .inr (.inr (.inr (.inr (va_up (va_up (fun _ => none) 0 (some (b + 3))) 1 (some (b + 5))))))), .inr (0, [.ref (b + 4)]), .inl (cT 0, 58, .inl (upd (fun _ => 0) 2 (-1))), .inr (0, [.ref (b + 6)]), .inl (cT 0, 58, .inl (upd (fun _ => 0) 2 (-1))), .inl (cT 5, 2, .inr (.inr (.inr (.inr (va_up (va_up (fun _ => none) 0 (some (b + 8))) 1 (some (b + 10))))))), .inr (4, [.int 24, .int 3, .int 3, .ref (b + 9)]), .inl (cT 0, 97, .inl (fun _ => 0)), .inr (4, [.int 24, .int 3, .int 3, .ref (b + 11)]), .inl (cT 0, 97, .inl (fun _ => 0)), .inl (cT 6, 2, .inr (.inr (.inr (.inr (va_up (va_up (fun _ => none) 0 (some (b + 13))) 1 (some (b + 15))))))), .inr (3, [.int 8, .int 2, .int 12, .ref (b + 14)]), .inl (cT 0, 25, .inl (fun _ => 0)), .inr (3, [.int 8, .int 2, .int 12, .ref (b + 16)]), .inl (cT 0, 25, .inl (fun _ => 0)), .inl (cT 7, 2, .inr (.inr (.inr (.inr (va_up (va_up (fun _ => none) 0 (some (b + 18))) 1 (some (b + 20))))))), .inr (1, [.int 5, .int 2, .int 17, .ref (b + 19)]), .inl (cT 0, 16, .inl (fun _ => 0)), .inr (1, [.int 5, .int 2, .int 17, .ref (b + 21)]), .inl (cT 0, 16, .inl (fun _ => 0)), .inl (cT 0, 4, .inl (fun _ => 0)), .inl (cT 1, 600, .inl (fun _ => 0)), .inl (cT 8, 3, .inr (.inr (.inr (.inr (va_up (va_up (va_up (fun _ => none) 0 (some (b + 25))) 1 (some (b + 48))) 2 (some (b + 71))))))), .inr (8, [.ref (b + 26), .ref (b + 31), .ref (b + 36), .ref (b + 41), .ref (b + 46), .ref (b + 47), .int 0, .int 0, .int (-1)]), .inl (cT 4, 2, .inr (.inr (.inr (.inr (va_up (va_up (fun _ => none) 0 (some (b + 27))) 1 (some (b + 29))))))), .inr (0, [.ref (b + 28)]), .inl (cT 0, 58, .inl (upd (fun _ => 0) 2 (-1))), .inr (0, [.ref (b + 30)]), .inl (cT 0, 58, .inl (upd (fun _ => 0) 2 (-1))), .inl (cT 5, 2, .inr (.inr (.inr (.inr (va_up (va_up (fun _ => none) 0 (some (b + 32))) 1 (some (b + 34))))))), .inr (4, [.int 24, .int 3, .int 3, .ref (b + 33)]), .inl (cT 0, 97, .inl (fun _ => 0)), .inr (4, [.int 24, .int 3, .int 3, .ref (b + 35)]), .inl (cT 0, 97, .inl (fun _ => 0)), .inl (cT 6, 2, .inr (.inr (.inr (.inr (va_up (va_up (fun _ => none) 0 (some (b + 37))) 1 (some (b + 39))))))), .inr (3, [.int 8, .int 2, .int 12, .ref (b + 38)]), .inl (cT 0, 25, .inl (fun _ => 0)), .inr (3, [.int 8, .int 2, .int 12, .ref (b + 40)]), .inl (cT 0, 25, .inl (fun _ => 0)), .inl (cT 7, 2, .inr (.inr (.inr (.inr (va_up (va_up (fun _ => none) 0 (some (b + 42))) 1 (some (b + 44))))))), .inr (1, [.int 5, .int 2, .int 17, .ref (b + 43)]), .inl (cT 0, 16, .inl (fun _ => 0)), .inr (1, [.int 5, .int 2, .int 17, .ref (b + 45)]), .inl (cT 0, 16, .inl (fun _ => 0)), .inl (cT 0, 4, .inl (fun _ => 0)), .inl (cT 1, 600, .inl (fun _ => 0)), .inr (8, [.ref (b + 49), .ref (b + 54), .ref (b + 59), .ref (b + 64), .ref (b + 69), .ref (b + 70), .int 0, .int 0, .int (-1)]), .inl (cT 4, 2, .inr (.inr (.inr (.inr (va_up (va_up (fun _ => none) 0 (some (b + 50))) 1 (some (b + 52))))))), .inr (0, [.ref (b + 51)]), .inl (cT 0, 58, .inl (upd (fun _ => 0) 2 (-1))), .inr (0, [.ref (b + 53)]), .inl (cT 0, 58, .inl (upd (fun _ => 0) 2 (-1))), .inl (cT 5, 2, .inr (.inr (.inr (.inr (va_up (va_up (fun _ => none) 0 (some (b + 55))) 1 (some (b + 57))))))), .inr (4, [.int 24, .int 3, .int 3, .ref (b + 56)]), .inl (cT 0, 97, .inl (fun _ => 0)), .inr (4, [.int 24, .int 3, .int 3, .ref (b + 58)]), .inl (cT 0, 97, .inl (fun _ => 0)), .inl (cT 6, 2, .inr (.inr (.inr (.inr (va_up (va_up (fun _ => none) 0 (some (b + 60))) 1 (some (b + 62))))))), .inr (3, [.int 8, .int 2, .int 12, .ref (b + 61)]), .inl (cT 0, 25, .inl (fun _ => 0)), .inr (3, [.int 8, .int 2, .int 12, .ref (b + 63)]), .inl (cT 0, 25, .inl (fun _ => 0)), .inl (cT 7, 2, .inr (.inr (.inr (.inr (va_up (va_up (fun _ => none) 0 (some (b + 65))) 1 (some (b + 67))))))), .inr (1, [.int 5, .int 2, .int 17, .ref (b + 66)]), .inl (cT 0, 16, .inl (fun _ => 0)), .inr (1, [.int 5, .int 2, .int 17, .ref (b + 68)]), .inl (cT 0, 16, .inl (fun _ => 0)), .inl (cT 0, 4, .inl (fun _ => 0)), .inl (cT 1, 600, .inl (fun _ => 0)), .inr (8, [.ref (b + 72), .ref (b + 77), .ref (b + 82), .ref (b + 87), .ref (b + 92), .ref (b + 93), .int 0, .int 0, .int (-1)]), .inl (cT 4, 2, .inr (.inr (.inr (.inr (va_up (va_up (fun _ => none) 0 (some (b + 73))) 1 (some (b + 75))))))), .inr (0, [.ref (b + 74)]), .inl (cT 0, 58, .inl (upd (fun _ => 0) 2 (-1))), .inr (0, [.ref (b + 76)]), .inl (cT 0, 58, .inl (upd (fun _ => 0) 2 (-1))), .inl (cT 5, 2, .inr (.inr (.inr (.inr (va_up (va_up (fun _ => none) 0 (some (b + 78))) 1 (some (b + 80))))))), .inr (4, [.int 24, .int 3, .int 3, .ref (b + 79)]), .inl (cT 0, 97, .inl (fun _ => 0)), .inr (4, [.int 24, .int 3, .int 3, .ref (b + 81)]), .inl (cT 0, 97, .inl (fun _ => 0)), .inl (cT 6, 2, .inr (.inr (.inr (.inr (va_up (va_up (fun _ => none) 0 (some (b + 83))) 1 (some (b + 85))))))), .inr (3, [.int 8, .int 2, .int 12, .ref (b + 84)]), .inl (cT 0, 25, .inl (fun _ => 0)), .inr (3, [.int 8, .int 2, .int 12, .ref (b + 86)]), .inl (cT 0, 25, .inl (fun _ => 0)), .inl (cT 7, 2, .inr (.inr (.inr (.inr (va_up (va_up (fun _ => none) 0 (some (b + 88))) 1 (some (b + 90))))))), .inr (1, [.int 5, .int 2, .int 17, .ref (b + 89)]), .inl (cT 0, 16, .inl (fun _ => 0)), .inr (1, [.int 5, .int 2, .int 17, .ref (b + 91)]), .inl (cT 0, 16, .inl (fun _ => 0)), .inl (cT 0, 4, .inl (fun _ => 0)), .inl (cT 1, 600, .inl (fun _ => 0)), .inl (cT 2, 3, .inl (fun _ => 0))]) H := hP
  refine lv_aload_n hx hb dX11_init_60 rfl (lv_at hl 0 rfl) ?_
  refine lv_iconst (v := 4) hx hb dX11_init_61 (by decide) ?_
  refine gb_newq (N' := 4) hx hb hown (hq _ w_151) (hSt.2.2.1 _ (by decide)) hK hP hS 95 hz rfl 9 rfl (by decide) (by decide) (Nat.le_of_ble_eq_true rfl) (Nat.le_of_ble_eq_true rfl) (Nat.le_of_ble_eq_true rfl) dX11_init_62 (fun H hP hz hS => ?_)
  have hP : va_P D vwCl (gb_wl b [.inr (9, [.ref (b + 1), .ref (b + 24), .ref (b + 94), .null, .null, .null, .null, .null, .null, .int 0]), .inr (8, [.ref (b + 2), .ref (b + 7), .ref (b + 12), .ref (b + 17), .ref (b + 22), .ref (b + 23), .int 0, .int 0, .int (-1)]), .inl (cT 4, 2, .inr (.inr (.inr (.inr (va_up (va_up (fun _ => none) 0 (some (b + 3))) 1 (some (b + 5))))))), .inr (0, [.ref (b + 4)]), .inl (cT 0, 58, .inl (upd (fun _ => 0) 2 (-1))), .inr (0, [.ref (b + 6)]), .inl (cT 0, 58, .inl (upd (fun _ => 0) 2 (-1))), .inl (cT 5, 2, .inr (.inr (.inr (.inr (va_up (va_up (fun _ => none) 0 (some (b + 8))) 1 (some (b + 10))))))), .inr (4, [.int 24, .int 3, .int 3, .ref (b + 9)]), .inl (cT 0, 97, .inl (fun _ => 0)), .inr (4, [.int 24, .int 3, .int 3, .ref (b + 11)]), .inl (cT 0, 97, .inl (fun _ => 0)), .inl (cT 6, 2, .inr (.inr (.inr (.inr (va_up (va_up (fun _ => none) 0 (some (b + 13))) 1 (some (b + 15))))))), .inr (3, [.int 8, .int 2, .int 12, .ref (b + 14)]), .inl (cT 0, 25, .inl (fun _ => 0)), .inr (3, [.int 8, .int 2, .int 12, .ref (b + 16)]), .inl (cT 0, 25, .inl (fun _ => 0)), .inl (cT 7, 2, .inr (.inr (.inr (.inr (va_up (va_up (fun _ => none) 0 (some (b + 18))) 1 (some (b + 20))))))), .inr (1, [.int 5, .int 2, .int 17, .ref (b + 19)]), .inl (cT 0, 16, .inl (fun _ => 0)), .inr (1, [.int 5, .int 2, .int 17, .ref (b + 21)]), .inl (cT 0, 16, .inl (fun _ => 0)), .inl (cT 0, 4, .inl (fun _ => 0)), .inl (cT 1, 600, .inl (fun _ => 0)), .inl (cT 8, 3, .inr (.inr (.inr (.inr (va_up (va_up (va_up (fun _ => none) 0 (some (b + 25))) 1 (some (b + 48))) 2 (some (b + 71))))))), .inr (8, [.ref (b + 26), .ref (b + 31), .ref (b + 36), .ref (b + 41), .ref (b + 46), .ref (b + 47), .int 0, .int 0, .int (-1)]), .inl (cT 4, 2, .inr (.inr (.inr (.inr (va_up (va_up (fun _ => none) 0 (some (b + 27))) 1 (some (b + 29))))))), .inr (0, [.ref (b + 28)]), .inl (cT 0, 58, .inl (upd (fun _ => 0) 2 (-1))), .inr (0, [.ref (b + 30)]), .inl (cT 0, 58, .inl (upd (fun _ => 0) 2 (-1))), .inl (cT 5, 2, .inr (.inr (.inr (.inr (va_up (va_up (fun _ => none) 0 (some (b + 32))) 1 (some (b + 34))))))), .inr (4, [.int 24, .int 3, .int 3, .ref (b + 33)]), .inl (cT 0, 97, .inl (fun _ => 0)), .inr (4, [.int 24, .int 3, .int 3, .ref (b + 35)]), .inl (cT 0, 97, .inl (fun _ => 0)), .inl (cT 6, 2, .inr (.inr (.inr (.inr (va_up (va_up (fun _ => none) 0 (some (b + 37))) 1 (some (b + 39))))))), .inr (3, [.int 8, .int 2, .int 12, .ref (b + 38)]), .inl (cT 0, 25, .inl (fun _ => 0)), .inr (3, [.int 8, .int 2, .int 12, .ref (b + 40)]), .inl (cT 0, 25, .inl (fun _ => 0)), .inl (cT 7, 2, .inr (.inr (.inr (.inr (va_up (va_up (fun _ => none) 0 (some (b + 42))) 1 (some (b + 44))))))), .inr (1, [.int 5, .int 2, .int 17, .ref (b + 43)]), .inl (cT 0, 16, .inl (fun _ => 0)), .inr (1, [.int 5, .int 2, .int 17, .ref (b + 45)]), .inl (cT 0, 16, .inl (fun _ => 0)), .inl (cT 0, 4, .inl (fun _ => 0)), .inl (cT 1, 600, .inl (fun _ => 0)), .inr (8, [.ref (b + 49), .ref (b + 54), .ref (b + 59), .ref (b + 64), .ref (b + 69), .ref (b + 70), .int 0, .int 0, .int (-1)]), .inl (cT 4, 2, .inr (.inr (.inr (.inr (va_up (va_up (fun _ => none) 0 (some (b + 50))) 1 (some (b + 52))))))), .inr (0, [.ref (b + 51)]), .inl (cT 0, 58, .inl (upd (fun _ => 0) 2 (-1))), .inr (0, [.ref (b + 53)]), .inl (cT 0, 58, .inl (upd (fun _ => 0) 2 (-1))), .inl (cT 5, 2, .inr (.inr (.inr (.inr (va_up (va_up (fun _ => none) 0 (some (b + 55))) 1 (some (b + 57))))))), .inr (4, [.int 24, .int 3, .int 3, .ref (b + 56)]), .inl (cT 0, 97, .inl (fun _ => 0)), .inr (4, [.int 24, .int 3, .int 3, .ref (b + 58)]), .inl (cT 0, 97, .inl (fun _ => 0)), .inl (cT 6, 2, .inr (.inr (.inr (.inr (va_up (va_up (fun _ => none) 0 (some (b + 60))) 1 (some (b + 62))))))), .inr (3, [.int 8, .int 2, .int 12, .ref (b + 61)]), .inl (cT 0, 25, .inl (fun _ => 0)), .inr (3, [.int 8, .int 2, .int 12, .ref (b + 63)]), .inl (cT 0, 25, .inl (fun _ => 0)), .inl (cT 7, 2, .inr (.inr (.inr (.inr (va_up (va_up (fun _ => none) 0 (some (b + 65))) 1 (some (b + 67))))))), .inr (1, [.int 5, .int 2, .int 17, .ref (b + 66)]), .inl (cT 0, 16, .inl (fun _ => 0)), .inr (1, [.int 5, .int 2, .int 17, .ref (b + 68)]), .inl (cT 0, 16, .inl (fun _ => 0)), .inl (cT 0, 4, .inl (fun _ => 0)), .inl (cT 1, 600, .inl (fun _ => 0)), .inr (8, [.ref (b + 72), .ref (b + 77), .ref (b + 82), .ref (b + 87), .ref (b + 92), .ref (b + 93), .int 0, .int 0, .int (-1)]), .inl (cT 4, 2, .inr (.inr (.inr (.inr (va_up (va_up (fun _ => none) 0 (some (b + 73))) 1 (some (b + 75))))))), .inr (0, [.ref (b + 74)]), .inl (cT 0, 58, .inl (upd (fun _ => 0) 2 (-1))), .inr (0, [.ref (b + 76)]), .inl (cT 0, 58, .inl (upd (fun _ => 0) 2 (-1))), .inl (cT 5, 2, .inr (.inr (.inr (.inr (va_up (va_up (fun _ => none) 0 (some (b + 78))) 1 (some (b + 80))))))), .inr (4, [.int 24, .int 3, .int 3, .ref (b + 79)]), .inl (cT 0, 97, .inl (fun _ => 0)), .inr (4, [.int 24, .int 3, .int 3, .ref (b + 81)]), .inl (cT 0, 97, .inl (fun _ => 0)), .inl (cT 6, 2, .inr (.inr (.inr (.inr (va_up (va_up (fun _ => none) 0 (some (b + 83))) 1 (some (b + 85))))))), .inr (3, [.int 8, .int 2, .int 12, .ref (b + 84)]), .inl (cT 0, 25, .inl (fun _ => 0)), .inr (3, [.int 8, .int 2, .int 12, .ref (b + 86)]), .inl (cT 0, 25, .inl (fun _ => 0)), .inl (cT 7, 2, .inr (.inr (.inr (.inr (va_up (va_up (fun _ => none) 0 (some (b + 88))) 1 (some (b + 90))))))), .inr (1, [.int 5, .int 2, .int 17, .ref (b + 89)]), .inl (cT 0, 16, .inl (fun _ => 0)), .inr (1, [.int 5, .int 2, .int 17, .ref (b + 91)]), .inl (cT 0, 16, .inl (fun _ => 0)), .inl (cT 0, 4, .inl (fun _ => 0)), .inl (cT 1, 600, .inl (fun _ => 0)), .inl (cT 2, 3, .inl (fun _ => 0)), .inl (cT 9, 4, .inr (.inr (.inr (.inr (fun _ => none)))))]) H := hP
  refine W.widen (k := 95) (n := 4166) (Nat.le_of_ble_eq_true rfl) (Nat.le_of_ble_eq_true rfl) ?_
  refine lv_dup hx hb dX11_init_65 rfl ?_
  refine lv_iconst (v := 0) hx hb dX11_init_66 (by decide) ?_
  refine gb_new (ci := 0) (fs := [.null]) (C := RX0) (T := TX0) (N := 1) hx hb hq i_X0 tyX0 tyX0_ok hown (hq _ w_153) (hq _ w_38) (hq _ w_4) hK hP hS 96 hz rfl rfl (fun j hj => by rcases (show j = 0 by omega) with rfl <;> rfl) (Nat.le_of_ble_eq_true rfl) (Nat.le_of_ble_eq_true rfl) dX11_init_67 (fun H hP hz hS => ?_)
  have hP : va_P D vwCl (gb_wl b [.inr (9, [.ref (b + 1), .ref (b + 24), .ref (b + 94), .null, .null, .null, .null, .null, .null, .int 0]), .inr (8, [.ref (b + 2), .ref (b + 7), .ref (b + 12), .ref (b + 17), .ref (b + 22), .ref (b + 23), .int 0, .int 0, .int (-1)]), .inl (cT 4, 2, .inr (.inr (.inr (.inr (va_up (va_up (fun _ => none) 0 (some (b + 3))) 1 (some (b + 5))))))), .inr (0, [.ref (b + 4)]), .inl (cT 0, 58, .inl (upd (fun _ => 0) 2 (-1))), .inr (0, [.ref (b + 6)]), .inl (cT 0, 58, .inl (upd (fun _ => 0) 2 (-1))), .inl (cT 5, 2, .inr (.inr (.inr (.inr (va_up (va_up (fun _ => none) 0 (some (b + 8))) 1 (some (b + 10))))))), .inr (4, [.int 24, .int 3, .int 3, .ref (b + 9)]), .inl (cT 0, 97, .inl (fun _ => 0)), .inr (4, [.int 24, .int 3, .int 3, .ref (b + 11)]), .inl (cT 0, 97, .inl (fun _ => 0)), .inl (cT 6, 2, .inr (.inr (.inr (.inr (va_up (va_up (fun _ => none) 0 (some (b + 13))) 1 (some (b + 15))))))), .inr (3, [.int 8, .int 2, .int 12, .ref (b + 14)]), .inl (cT 0, 25, .inl (fun _ => 0)), .inr (3, [.int 8, .int 2, .int 12, .ref (b + 16)]), .inl (cT 0, 25, .inl (fun _ => 0)), .inl (cT 7, 2, .inr (.inr (.inr (.inr (va_up (va_up (fun _ => none) 0 (some (b + 18))) 1 (some (b + 20))))))), .inr (1, [.int 5, .int 2, .int 17, .ref (b + 19)]), .inl (cT 0, 16, .inl (fun _ => 0)), .inr (1, [.int 5, .int 2, .int 17, .ref (b + 21)]), .inl (cT 0, 16, .inl (fun _ => 0)), .inl (cT 0, 4, .inl (fun _ => 0)), .inl (cT 1, 600, .inl (fun _ => 0)), .inl (cT 8, 3, .inr (.inr (.inr (.inr (va_up (va_up (va_up (fun _ => none) 0 (some (b + 25))) 1 (some (b + 48))) 2 (some (b + 71))))))), .inr (8, [.ref (b + 26), .ref (b + 31), .ref (b + 36), .ref (b + 41), .ref (b + 46), .ref (b + 47), .int 0, .int 0, .int (-1)]), .inl (cT 4, 2, .inr (.inr (.inr (.inr (va_up (va_up (fun _ => none) 0 (some (b + 27))) 1 (some (b + 29))))))), .inr (0, [.ref (b + 28)]), .inl (cT 0, 58, .inl (upd (fun _ => 0) 2 (-1))), .inr (0, [.ref (b + 30)]), .inl (cT 0, 58, .inl (upd (fun _ => 0) 2 (-1))), .inl (cT 5, 2, .inr (.inr (.inr (.inr (va_up (va_up (fun _ => none) 0 (some (b + 32))) 1 (some (b + 34))))))), .inr (4, [.int 24, .int 3, .int 3, .ref (b + 33)]), .inl (cT 0, 97, .inl (fun _ => 0)), .inr (4, [.int 24, .int 3, .int 3, .ref (b + 35)]), .inl (cT 0, 97, .inl (fun _ => 0)), .inl (cT 6, 2, .inr (.inr (.inr (.inr (va_up (va_up (fun _ => none) 0 (some (b + 37))) 1 (some (b + 39))))))), .inr (3, [.int 8, .int 2, .int 12, .ref (b + 38)]), .inl (cT 0, 25, .inl (fun _ => 0)), .inr (3, [.int 8, .int 2, .int 12, .ref (b + 40)]), .inl (cT 0, 25, .inl (fun _ => 0)), .inl (cT 7, 2, .inr (.inr (.inr (.inr (va_up (va_up (fun _ => none) 0 (some (b + 42))) 1 (some (b + 44))))))), .inr (1, [.int 5, .int 2, .int 17, .ref (b + 43)]), .inl (cT 0, 16, .inl (fun _ => 0)), .inr (1, [.int 5, .int 2, .int 17, .ref (b + 45)]), .inl (cT 0, 16, .inl (fun _ => 0)), .inl (cT 0, 4, .inl (fun _ => 0)), .inl (cT 1, 600, .inl (fun _ => 0)), .inr (8, [.ref (b + 49), .ref (b + 54), .ref (b + 59), .ref (b + 64), .ref (b + 69), .ref (b + 70), .int 0, .int 0, .int (-1)]), .inl (cT 4, 2, .inr (.inr (.inr (.inr (va_up (va_up (fun _ => none) 0 (some (b + 50))) 1 (some (b + 52))))))), .inr (0, [.ref (b + 51)]), .inl (cT 0, 58, .inl (upd (fun _ => 0) 2 (-1))), .inr (0, [.ref (b + 53)]), .inl (cT 0, 58, .inl (upd (fun _ => 0) 2 (-1))), .inl (cT 5, 2, .inr (.inr (.inr (.inr (va_up (va_up (fun _ => none) 0 (some (b + 55))) 1 (some (b + 57))))))), .inr (4, [.int 24, .int 3, .int 3, .ref (b + 56)]), .inl (cT 0, 97, .inl (fun _ => 0)), .inr (4, [.int 24, .int 3, .int 3, .ref (b + 58)]), .inl (cT 0, 97, .inl (fun _ => 0)), .inl (cT 6, 2, .inr (.inr (.inr (.inr (va_up (va_up (fun _ => none) 0 (some (b + 60))) 1 (some (b + 62))))))), .inr (3, [.int 8, .int 2, .int 12, .ref (b + 61)]), .inl (cT 0, 25, .inl (fun _ => 0)), .inr (3, [.int 8, .int 2, .int 12, .ref (b + 63)]), .inl (cT 0, 25, .inl (fun _ => 0)), .inl (cT 7, 2, .inr (.inr (.inr (.inr (va_up (va_up (fun _ => none) 0 (some (b + 65))) 1 (some (b + 67))))))), .inr (1, [.int 5, .int 2, .int 17, .ref (b + 66)]), .inl (cT 0, 16, .inl (fun _ => 0)), .inr (1, [.int 5, .int 2, .int 17, .ref (b + 68)]), .inl (cT 0, 16, .inl (fun _ => 0)), .inl (cT 0, 4, .inl (fun _ => 0)), .inl (cT 1, 600, .inl (fun _ => 0)), .inr (8, [.ref (b + 72), .ref (b + 77), .ref (b + 82), .ref (b + 87), .ref (b + 92), .ref (b + 93), .int 0, .int 0, .int (-1)]), .inl (cT 4, 2, .inr (.inr (.inr (.inr (va_up (va_up (fun _ => none) 0 (some (b + 73))) 1 (some (b + 75))))))), .inr (0, [.ref (b + 74)]), .inl (cT 0, 58, .inl (upd (fun _ => 0) 2 (-1))), .inr (0, [.ref (b + 76)]), .inl (cT 0, 58, .inl (upd (fun _ => 0) 2 (-1))), .inl (cT 5, 2, .inr (.inr (.inr (.inr (va_up (va_up (fun _ => none) 0 (some (b + 78))) 1 (some (b + 80))))))), .inr (4, [.int 24, .int 3, .int 3, .ref (b + 79)]), .inl (cT 0, 97, .inl (fun _ => 0)), .inr (4, [.int 24, .int 3, .int 3, .ref (b + 81)]), .inl (cT 0, 97, .inl (fun _ => 0)), .inl (cT 6, 2, .inr (.inr (.inr (.inr (va_up (va_up (fun _ => none) 0 (some (b + 83))) 1 (some (b + 85))))))), .inr (3, [.int 8, .int 2, .int 12, .ref (b + 84)]), .inl (cT 0, 25, .inl (fun _ => 0)), .inr (3, [.int 8, .int 2, .int 12, .ref (b + 86)]), .inl (cT 0, 25, .inl (fun _ => 0)), .inl (cT 7, 2, .inr (.inr (.inr (.inr (va_up (va_up (fun _ => none) 0 (some (b + 88))) 1 (some (b + 90))))))), .inr (1, [.int 5, .int 2, .int 17, .ref (b + 89)]), .inl (cT 0, 16, .inl (fun _ => 0)), .inr (1, [.int 5, .int 2, .int 17, .ref (b + 91)]), .inl (cT 0, 16, .inl (fun _ => 0)), .inl (cT 0, 4, .inl (fun _ => 0)), .inl (cT 1, 600, .inl (fun _ => 0)), .inl (cT 2, 3, .inl (fun _ => 0)), .inl (cT 9, 4, .inr (.inr (.inr (.inr (fun _ => none))))), .inr (0, [.null])]) H := hP
  refine W.widen (k := 96) (n := 4167) (Nat.le_of_ble_eq_true rfl) (Nat.le_of_ble_eq_true rfl) ?_
  refine lv_dup hx hb dX11_init_70 rfl ?_
  have hPc := gb_drop hP 96 (suf := [.inr (0, [.null])]) rfl rfl
  refine gb_callv (va_runI (As := []) (rest := [.ref (b + 96), .int 0, .ref (b + 95), .ref (b + 95), .ref (b + 0)]) ⟨hx, hb, hml, hown, hq⟩ (k_X0_init l D cT tt b1 (b + 96) (Nat.le_trans hb1 (Nat.le_add_right b 96))) (cwI 0 hq (gb_gI w_41) rfl rfl rfl (hq _ w_4) (hq _ w_154) (hq _ w_40) rfl (by decide +kernel) ⟨Nat.le_of_ble_eq_true rfl, Nat.le_of_ble_eq_true rfl⟩) (gb_preS hSt hS (fun q h => Nat.le_trans hb1 h) (show va_P D vwCl (gb_wl (b + 96) [.inr (0, [.null])]) H ∧ Array.size H = b + 96 + 1 from ⟨hPc, hz⟩)) rfl rfl hl.1 rfl (lv_room (Nat.le_of_ble_eq_true rfl)) dX11_init_71 ⟨Nat.le_of_ble_eq_true rfl, Nat.le_of_ble_eq_true rfl⟩) hS (fun q h => Nat.le_trans (Nat.le_add_right b 96) h) (fun q h => Nat.le_trans (Nat.le_add_right b 96) h) (fun H locs hY hk hS => ?_)
  have hP := gb_glue hP 96 (pre := [.inr (9, [.ref (b + 1), .ref (b + 24), .ref (b + 94), .null, .null, .null, .null, .null, .null, .int 0]), .inr (8, [.ref (b + 2), .ref (b + 7), .ref (b + 12), .ref (b + 17), .ref (b + 22), .ref (b + 23), .int 0, .int 0, .int (-1)]), .inl (cT 4, 2, .inr (.inr (.inr (.inr (va_up (va_up (fun _ => none) 0 (some (b + 3))) 1 (some (b + 5))))))), .inr (0, [.ref (b + 4)]), .inl (cT 0, 58, .inl (upd (fun _ => 0) 2 (-1))), .inr (0, [.ref (b + 6)]), .inl (cT 0, 58, .inl (upd (fun _ => 0) 2 (-1))), .inl (cT 5, 2, .inr (.inr (.inr (.inr (va_up (va_up (fun _ => none) 0 (some (b + 8))) 1 (some (b + 10))))))), .inr (4, [.int 24, .int 3, .int 3, .ref (b + 9)]), .inl (cT 0, 97, .inl (fun _ => 0)), .inr (4, [.int 24, .int 3, .int 3, .ref (b + 11)]), .inl (cT 0, 97, .inl (fun _ => 0)), .inl (cT 6, 2, .inr (.inr (.inr (.inr (va_up (va_up (fun _ => none) 0 (some (b + 13))) 1 (some (b + 15))))))), .inr (3, [.int 8, .int 2, .int 12, .ref (b + 14)]), .inl (cT 0, 25, .inl (fun _ => 0)), .inr (3, [.int 8, .int 2, .int 12, .ref (b + 16)]), .inl (cT 0, 25, .inl (fun _ => 0)), .inl (cT 7, 2, .inr (.inr (.inr (.inr (va_up (va_up (fun _ => none) 0 (some (b + 18))) 1 (some (b + 20))))))), .inr (1, [.int 5, .int 2, .int 17, .ref (b + 19)]), .inl (cT 0, 16, .inl (fun _ => 0)), .inr (1, [.int 5, .int 2, .int 17, .ref (b + 21)]), .inl (cT 0, 16, .inl (fun _ => 0)), .inl (cT 0, 4, .inl (fun _ => 0)), .inl (cT 1, 600, .inl (fun _ => 0)), .inl (cT 8, 3, .inr (.inr (.inr (.inr (va_up (va_up (va_up (fun _ => none) 0 (some (b + 25))) 1 (some (b + 48))) 2 (some (b + 71))))))), .inr (8, [.ref (b + 26), .ref (b + 31), .ref (b + 36), .ref (b + 41), .ref (b + 46), .ref (b + 47), .int 0, .int 0, .int (-1)]), .inl (cT 4, 2, .inr (.inr (.inr (.inr (va_up (va_up (fun _ => none) 0 (some (b + 27))) 1 (some (b + 29))))))), .inr (0, [.ref (b + 28)]), .inl (cT 0, 58, .inl (upd (fun _ => 0) 2 (-1))), .inr (0, [.ref (b + 30)]), .inl (cT 0, 58, .inl (upd (fun _ => 0) 2 (-1))), .inl (cT 5, 2, .inr (.inr (.inr (.inr (va_up (va_up (fun _ => none) 0 (some (b + 32))) 1 (some (b + 34))))))), .inr (4, [.int 24, .int 3, .int 3, .ref (b + 33)]), .inl (cT 0, 97, .inl (fun _ => 0)), .inr (4, [.int 24, .int 3, .int 3, .ref (b + 35)]), .inl (cT 0, 97, .inl (fun _ => 0)), .inl (cT 6, 2, .inr (.inr (.inr (.inr (va_up (va_up (fun _ => none) 0 (some (b + 37))) 1 (some (b + 39))))))), .inr (3, [.int 8, .int 2, .int 12, .ref (b + 38)]), .inl (cT 0, 25, .inl (fun _ => 0)), .inr (3, [.int 8, .int 2, .int 12, .ref (b + 40)]), .inl (cT 0, 25, .inl (fun _ => 0)), .inl (cT 7, 2, .inr (.inr (.inr (.inr (va_up (va_up (fun _ => none) 0 (some (b + 42))) 1 (some (b + 44))))))), .inr (1, [.int 5, .int 2, .int 17, .ref (b + 43)]), .inl (cT 0, 16, .inl (fun _ => 0)), .inr (1, [.int 5, .int 2, .int 17, .ref (b + 45)]), .inl (cT 0, 16, .inl (fun _ => 0)), .inl (cT 0, 4, .inl (fun _ => 0)), .inl (cT 1, 600, .inl (fun _ => 0)), .inr (8, [.ref (b + 49), .ref (b + 54), .ref (b + 59), .ref (b + 64), .ref (b + 69), .ref (b + 70), .int 0, .int 0, .int (-1)]), .inl (cT 4, 2, .inr (.inr (.inr (.inr (va_up (va_up (fun _ => none) 0 (some (b + 50))) 1 (some (b + 52))))))), .inr (0, [.ref (b + 51)]), .inl (cT 0, 58, .inl (upd (fun _ => 0) 2 (-1))), .inr (0, [.ref (b + 53)]), .inl (cT 0, 58, .inl (upd (fun _ => 0) 2 (-1))), .inl (cT 5, 2, .inr (.inr (.inr (.inr (va_up (va_up (fun _ => none) 0 (some (b + 55))) 1 (some (b + 57))))))), .inr (4, [.int 24, .int 3, .int 3, .ref (b + 56)]), .inl (cT 0, 97, .inl (fun _ => 0)), .inr (4, [.int 24, .int 3, .int 3, .ref (b + 58)]), .inl (cT 0, 97, .inl (fun _ => 0)), .inl (cT 6, 2, .inr (.inr (.inr (.inr (va_up (va_up (fun _ => none) 0 (some (b + 60))) 1 (some (b + 62))))))), .inr (3, [.int 8, .int 2, .int 12, .ref (b + 61)]), .inl (cT 0, 25, .inl (fun _ => 0)), .inr (3, [.int 8, .int 2, .int 12, .ref (b + 63)]), .inl (cT 0, 25, .inl (fun _ => 0)), .inl (cT 7, 2, .inr (.inr (.inr (.inr (va_up (va_up (fun _ => none) 0 (some (b + 65))) 1 (some (b + 67))))))), .inr (1, [.int 5, .int 2, .int 17, .ref (b + 66)]), .inl (cT 0, 16, .inl (fun _ => 0)), .inr (1, [.int 5, .int 2, .int 17, .ref (b + 68)]), .inl (cT 0, 16, .inl (fun _ => 0)), .inl (cT 0, 4, .inl (fun _ => 0)), .inl (cT 1, 600, .inl (fun _ => 0)), .inr (8, [.ref (b + 72), .ref (b + 77), .ref (b + 82), .ref (b + 87), .ref (b + 92), .ref (b + 93), .int 0, .int 0, .int (-1)]), .inl (cT 4, 2, .inr (.inr (.inr (.inr (va_up (va_up (fun _ => none) 0 (some (b + 73))) 1 (some (b + 75))))))), .inr (0, [.ref (b + 74)]), .inl (cT 0, 58, .inl (upd (fun _ => 0) 2 (-1))), .inr (0, [.ref (b + 76)]), .inl (cT 0, 58, .inl (upd (fun _ => 0) 2 (-1))), .inl (cT 5, 2, .inr (.inr (.inr (.inr (va_up (va_up (fun _ => none) 0 (some (b + 78))) 1 (some (b + 80))))))), .inr (4, [.int 24, .int 3, .int 3, .ref (b + 79)]), .inl (cT 0, 97, .inl (fun _ => 0)), .inr (4, [.int 24, .int 3, .int 3, .ref (b + 81)]), .inl (cT 0, 97, .inl (fun _ => 0)), .inl (cT 6, 2, .inr (.inr (.inr (.inr (va_up (va_up (fun _ => none) 0 (some (b + 83))) 1 (some (b + 85))))))), .inr (3, [.int 8, .int 2, .int 12, .ref (b + 84)]), .inl (cT 0, 25, .inl (fun _ => 0)), .inr (3, [.int 8, .int 2, .int 12, .ref (b + 86)]), .inl (cT 0, 25, .inl (fun _ => 0)), .inl (cT 7, 2, .inr (.inr (.inr (.inr (va_up (va_up (fun _ => none) 0 (some (b + 88))) 1 (some (b + 90))))))), .inr (1, [.int 5, .int 2, .int 17, .ref (b + 89)]), .inl (cT 0, 16, .inl (fun _ => 0)), .inr (1, [.int 5, .int 2, .int 17, .ref (b + 91)]), .inl (cT 0, 16, .inl (fun _ => 0)), .inl (cT 0, 4, .inl (fun _ => 0)), .inl (cT 1, 600, .inl (fun _ => 0)), .inl (cT 2, 3, .inl (fun _ => 0)), .inl (cT 9, 4, .inr (.inr (.inr (.inr (fun _ => none)))))]) rfl rfl hk hY.1
  have hP : va_P D vwCl (gb_wl b [.inr (9, [.ref (b + 1), .ref (b + 24), .ref (b + 94), .null, .null, .null, .null, .null, .null, .int 0]), .inr (8, [.ref (b + 2), .ref (b + 7), .ref (b + 12), .ref (b + 17), .ref (b + 22), .ref (b + 23), .int 0, .int 0, .int (-1)]), .inl (cT 4, 2, .inr (.inr (.inr (.inr (va_up (va_up (fun _ => none) 0 (some (b + 3))) 1 (some (b + 5))))))), .inr (0, [.ref (b + 4)]), .inl (cT 0, 58, .inl (upd (fun _ => 0) 2 (-1))), .inr (0, [.ref (b + 6)]), .inl (cT 0, 58, .inl (upd (fun _ => 0) 2 (-1))), .inl (cT 5, 2, .inr (.inr (.inr (.inr (va_up (va_up (fun _ => none) 0 (some (b + 8))) 1 (some (b + 10))))))), .inr (4, [.int 24, .int 3, .int 3, .ref (b + 9)]), .inl (cT 0, 97, .inl (fun _ => 0)), .inr (4, [.int 24, .int 3, .int 3, .ref (b + 11)]), .inl (cT 0, 97, .inl (fun _ => 0)), .inl (cT 6, 2, .inr (.inr (.inr (.inr (va_up (va_up (fun _ => none) 0 (some (b + 13))) 1 (some (b + 15))))))), .inr (3, [.int 8, .int 2, .int 12, .ref (b + 14)]), .inl (cT 0, 25, .inl (fun _ => 0)), .inr (3, [.int 8, .int 2, .int 12, .ref (b + 16)]), .inl (cT 0, 25, .inl (fun _ => 0)), .inl (cT 7, 2, .inr (.inr (.inr (.inr (va_up (va_up (fun _ => none) 0 (some (b + 18))) 1 (some (b + 20))))))), .inr (1, [.int 5, .int 2, .int 17, .ref (b + 19)]), .inl (cT 0, 16, .inl (fun _ => 0)), .inr (1, [.int 5, .int 2, .int 17, .ref (b + 21)]), .inl (cT 0, 16, .inl (fun _ => 0)), .inl (cT 0, 4, .inl (fun _ => 0)), .inl (cT 1, 600, .inl (fun _ => 0)), .inl (cT 8, 3, .inr (.inr (.inr (.inr (va_up (va_up (va_up (fun _ => none) 0 (some (b + 25))) 1 (some (b + 48))) 2 (some (b + 71))))))), .inr (8, [.ref (b + 26), .ref (b + 31), .ref (b + 36), .ref (b + 41), .ref (b + 46), .ref (b + 47), .int 0, .int 0, .int (-1)]), .inl (cT 4, 2, .inr (.inr (.inr (.inr (va_up (va_up (fun _ => none) 0 (some (b + 27))) 1 (some (b + 29))))))), .inr (0, [.ref (b + 28)]), .inl (cT 0, 58, .inl (upd (fun _ => 0) 2 (-1))), .inr (0, [.ref (b + 30)]), .inl (cT 0, 58, .inl (upd (fun _ => 0) 2 (-1))), .inl (cT 5, 2, .inr (.inr (.inr (.inr (va_up (va_up (fun _ => none) 0 (some (b + 32))) 1 (some (b + 34))))))), .inr (4, [.int 24, .int 3, .int 3, .ref (b + 33)]), .inl (cT 0, 97, .inl (fun _ => 0)), .inr (4, [.int 24, .int 3, .int 3, .ref (b + 35)]), .inl (cT 0, 97, .inl (fun _ => 0)), .inl (cT 6, 2, .inr (.inr (.inr (.inr (va_up (va_up (fun _ => none) 0 (some (b + 37))) 1 (some (b + 39))))))), .inr (3, [.int 8, .int 2, .int 12, .ref (b + 38)]), .inl (cT 0, 25, .inl (fun _ => 0)), .inr (3, [.int 8, .int 2, .int 12, .ref (b + 40)]), .inl (cT 0, 25, .inl (fun _ => 0)), .inl (cT 7, 2, .inr (.inr (.inr (.inr (va_up (va_up (fun _ => none) 0 (some (b + 42))) 1 (some (b + 44))))))), .inr (1, [.int 5, .int 2, .int 17, .ref (b + 43)]), .inl (cT 0, 16, .inl (fun _ => 0)), .inr (1, [.int 5, .int 2, .int 17, .ref (b + 45)]), .inl (cT 0, 16, .inl (fun _ => 0)), .inl (cT 0, 4, .inl (fun _ => 0)), .inl (cT 1, 600, .inl (fun _ => 0)), .inr (8, [.ref (b + 49), .ref (b + 54), .ref (b + 59), .ref (b + 64), .ref (b + 69), .ref (b + 70), .int 0, .int 0, .int (-1)]), .inl (cT 4, 2, .inr (.inr (.inr (.inr (va_up (va_up (fun _ => none) 0 (some (b + 50))) 1 (some (b + 52))))))), .inr (0, [.ref (b + 51)]), .inl (cT 0, 58, .inl (upd (fun _ => 0) 2 (-1))), .inr (0, [.ref (b + 53)]), .inl (cT 0, 58, .inl (upd (fun _ => 0) 2 (-1))), .inl (cT 5, 2, .inr (.inr (.inr (.inr (va_up (va_up (fun _ => none) 0 (some (b + 55))) 1 (some (b + 57))))))), .inr (4, [.int 24, .int 3, .int 3, .ref (b + 56)]), .inl (cT 0, 97, .inl (fun _ => 0)), .inr (4, [.int 24, .int 3, .int 3, .ref (b + 58)]), .inl (cT 0, 97, .inl (fun _ => 0)), .inl (cT 6, 2, .inr (.inr (.inr (.inr (va_up (va_up (fun _ => none) 0 (some (b + 60))) 1 (some (b + 62))))))), .inr (3, [.int 8, .int 2, .int 12, .ref (b + 61)]), .inl (cT 0, 25, .inl (fun _ => 0)), .inr (3, [.int 8, .int 2, .int 12, .ref (b + 63)]), .inl (cT 0, 25, .inl (fun _ => 0)), .inl (cT 7, 2, .inr (.inr (.inr (.inr (va_up (va_up (fun _ => none) 0 (some (b + 65))) 1 (some (b + 67))))))), .inr (1, [.int 5, .int 2, .int 17, .ref (b + 66)]), .inl (cT 0, 16, .inl (fun _ => 0)), .inr (1, [.int 5, .int 2, .int 17, .ref (b + 68)]), .inl (cT 0, 16, .inl (fun _ => 0)), .inl (cT 0, 4, .inl (fun _ => 0)), .inl (cT 1, 600, .inl (fun _ => 0)), .inr (8, [.ref (b + 72), .ref (b + 77), .ref (b + 82), .ref (b + 87), .ref (b + 92), .ref (b + 93), .int 0, .int 0, .int (-1)]), .inl (cT 4, 2, .inr (.inr (.inr (.inr (va_up (va_up (fun _ => none) 0 (some (b + 73))) 1 (some (b + 75))))))), .inr (0, [.ref (b + 74)]), .inl (cT 0, 58, .inl (upd (fun _ => 0) 2 (-1))), .inr (0, [.ref (b + 76)]), .inl (cT 0, 58, .inl (upd (fun _ => 0) 2 (-1))), .inl (cT 5, 2, .inr (.inr (.inr (.inr (va_up (va_up (fun _ => none) 0 (some (b + 78))) 1 (some (b + 80))))))), .inr (4, [.int 24, .int 3, .int 3, .ref (b + 79)]), .inl (cT 0, 97, .inl (fun _ => 0)), .inr (4, [.int 24, .int 3, .int 3, .ref (b + 81)]), .inl (cT 0, 97, .inl (fun _ => 0)), .inl (cT 6, 2, .inr (.inr (.inr (.inr (va_up (va_up (fun _ => none) 0 (some (b + 83))) 1 (some (b + 85))))))), .inr (3, [.int 8, .int 2, .int 12, .ref (b + 84)]), .inl (cT 0, 25, .inl (fun _ => 0)), .inr (3, [.int 8, .int 2, .int 12, .ref (b + 86)]), .inl (cT 0, 25, .inl (fun _ => 0)), .inl (cT 7, 2, .inr (.inr (.inr (.inr (va_up (va_up (fun _ => none) 0 (some (b + 88))) 1 (some (b + 90))))))), .inr (1, [.int 5, .int 2, .int 17, .ref (b + 89)]), .inl (cT 0, 16, .inl (fun _ => 0)), .inr (1, [.int 5, .int 2, .int 17, .ref (b + 91)]), .inl (cT 0, 16, .inl (fun _ => 0)), .inl (cT 0, 4, .inl (fun _ => 0)), .inl (cT 1, 600, .inl (fun _ => 0)), .inl (cT 2, 3, .inl (fun _ => 0)), .inl (cT 9, 4, .inr (.inr (.inr (.inr (fun _ => none))))), .inr (0, [.ref (b + 97)]), .inl (cT 0, 58, .inl (upd (fun _ => 0) 2 (-1)))]) H := hP
  have hz : Array.size H = b + 98 := hY.2
  refine W.widen (k := 97) (n := 4225) (Nat.le_of_ble_eq_true rfl) (Nat.le_of_ble_eq_true rfl) ?_
  refine gb_astq (E := "GooseBorder$Sheet") hx hb hK hP (fun k _ => Nat.le_add_right b k) hS hz 95 9 96 0 rfl rfl (Or.inr (hSt.2.1 _ gb_n1734)) rfl rfl (gb_in rfl) dX11_init_74 (fun H locs hP hz hS => ?_)
  have hP : va_P D vwCl (gb_wl b [.inr (9, [.ref (b + 1), .ref (b + 24), .ref (b + 94), .null, .null, .null, .null, .null, .null, .int 0]), .inr (8, [.ref (b + 2), .ref (b + 7), .ref (b + 12), .ref (b + 17), .ref (b + 22), .ref (b + 23), .int 0, .int 0, .int (-1)]), .inl (cT 4, 2, .inr (.inr (.inr (.inr (va_up (va_up (fun _ => none) 0 (some (b + 3))) 1 (some (b + 5))))))), .inr (0, [.ref (b + 4)]), .inl (cT 0, 58, .inl (upd (fun _ => 0) 2 (-1))), .inr (0, [.ref (b + 6)]), .inl (cT 0, 58, .inl (upd (fun _ => 0) 2 (-1))), .inl (cT 5, 2, .inr (.inr (.inr (.inr (va_up (va_up (fun _ => none) 0 (some (b + 8))) 1 (some (b + 10))))))), .inr (4, [.int 24, .int 3, .int 3, .ref (b + 9)]), .inl (cT 0, 97, .inl (fun _ => 0)), .inr (4, [.int 24, .int 3, .int 3, .ref (b + 11)]), .inl (cT 0, 97, .inl (fun _ => 0)), .inl (cT 6, 2, .inr (.inr (.inr (.inr (va_up (va_up (fun _ => none) 0 (some (b + 13))) 1 (some (b + 15))))))), .inr (3, [.int 8, .int 2, .int 12, .ref (b + 14)]), .inl (cT 0, 25, .inl (fun _ => 0)), .inr (3, [.int 8, .int 2, .int 12, .ref (b + 16)]), .inl (cT 0, 25, .inl (fun _ => 0)), .inl (cT 7, 2, .inr (.inr (.inr (.inr (va_up (va_up (fun _ => none) 0 (some (b + 18))) 1 (some (b + 20))))))), .inr (1, [.int 5, .int 2, .int 17, .ref (b + 19)]), .inl (cT 0, 16, .inl (fun _ => 0)), .inr (1, [.int 5, .int 2, .int 17, .ref (b + 21)]), .inl (cT 0, 16, .inl (fun _ => 0)), .inl (cT 0, 4, .inl (fun _ => 0)), .inl (cT 1, 600, .inl (fun _ => 0)), .inl (cT 8, 3, .inr (.inr (.inr (.inr (va_up (va_up (va_up (fun _ => none) 0 (some (b + 25))) 1 (some (b + 48))) 2 (some (b + 71))))))), .inr (8, [.ref (b + 26), .ref (b + 31), .ref (b + 36), .ref (b + 41), .ref (b + 46), .ref (b + 47), .int 0, .int 0, .int (-1)]), .inl (cT 4, 2, .inr (.inr (.inr (.inr (va_up (va_up (fun _ => none) 0 (some (b + 27))) 1 (some (b + 29))))))), .inr (0, [.ref (b + 28)]), .inl (cT 0, 58, .inl (upd (fun _ => 0) 2 (-1))), .inr (0, [.ref (b + 30)]), .inl (cT 0, 58, .inl (upd (fun _ => 0) 2 (-1))), .inl (cT 5, 2, .inr (.inr (.inr (.inr (va_up (va_up (fun _ => none) 0 (some (b + 32))) 1 (some (b + 34))))))), .inr (4, [.int 24, .int 3, .int 3, .ref (b + 33)]), .inl (cT 0, 97, .inl (fun _ => 0)), .inr (4, [.int 24, .int 3, .int 3, .ref (b + 35)]), .inl (cT 0, 97, .inl (fun _ => 0)), .inl (cT 6, 2, .inr (.inr (.inr (.inr (va_up (va_up (fun _ => none) 0 (some (b + 37))) 1 (some (b + 39))))))), .inr (3, [.int 8, .int 2, .int 12, .ref (b + 38)]), .inl (cT 0, 25, .inl (fun _ => 0)), .inr (3, [.int 8, .int 2, .int 12, .ref (b + 40)]), .inl (cT 0, 25, .inl (fun _ => 0)), .inl (cT 7, 2, .inr (.inr (.inr (.inr (va_up (va_up (fun _ => none) 0 (some (b + 42))) 1 (some (b + 44))))))), .inr (1, [.int 5, .int 2, .int 17, .ref (b + 43)]), .inl (cT 0, 16, .inl (fun _ => 0)), .inr (1, [.int 5, .int 2, .int 17, .ref (b + 45)]), .inl (cT 0, 16, .inl (fun _ => 0)), .inl (cT 0, 4, .inl (fun _ => 0)), .inl (cT 1, 600, .inl (fun _ => 0)), .inr (8, [.ref (b + 49), .ref (b + 54), .ref (b + 59), .ref (b + 64), .ref (b + 69), .ref (b + 70), .int 0, .int 0, .int (-1)]), .inl (cT 4, 2, .inr (.inr (.inr (.inr (va_up (va_up (fun _ => none) 0 (some (b + 50))) 1 (some (b + 52))))))), .inr (0, [.ref (b + 51)]), .inl (cT 0, 58, .inl (upd (fun _ => 0) 2 (-1))), .inr (0, [.ref (b + 53)]), .inl (cT 0, 58, .inl (upd (fun _ => 0) 2 (-1))), .inl (cT 5, 2, .inr (.inr (.inr (.inr (va_up (va_up (fun _ => none) 0 (some (b + 55))) 1 (some (b + 57))))))), .inr (4, [.int 24, .int 3, .int 3, .ref (b + 56)]), .inl (cT 0, 97, .inl (fun _ => 0)), .inr (4, [.int 24, .int 3, .int 3, .ref (b + 58)]), .inl (cT 0, 97, .inl (fun _ => 0)), .inl (cT 6, 2, .inr (.inr (.inr (.inr (va_up (va_up (fun _ => none) 0 (some (b + 60))) 1 (some (b + 62))))))), .inr (3, [.int 8, .int 2, .int 12, .ref (b + 61)]), .inl (cT 0, 25, .inl (fun _ => 0)), .inr (3, [.int 8, .int 2, .int 12, .ref (b + 63)]), .inl (cT 0, 25, .inl (fun _ => 0)), .inl (cT 7, 2, .inr (.inr (.inr (.inr (va_up (va_up (fun _ => none) 0 (some (b + 65))) 1 (some (b + 67))))))), .inr (1, [.int 5, .int 2, .int 17, .ref (b + 66)]), .inl (cT 0, 16, .inl (fun _ => 0)), .inr (1, [.int 5, .int 2, .int 17, .ref (b + 68)]), .inl (cT 0, 16, .inl (fun _ => 0)), .inl (cT 0, 4, .inl (fun _ => 0)), .inl (cT 1, 600, .inl (fun _ => 0)), .inr (8, [.ref (b + 72), .ref (b + 77), .ref (b + 82), .ref (b + 87), .ref (b + 92), .ref (b + 93), .int 0, .int 0, .int (-1)]), .inl (cT 4, 2, .inr (.inr (.inr (.inr (va_up (va_up (fun _ => none) 0 (some (b + 73))) 1 (some (b + 75))))))), .inr (0, [.ref (b + 74)]), .inl (cT 0, 58, .inl (upd (fun _ => 0) 2 (-1))), .inr (0, [.ref (b + 76)]), .inl (cT 0, 58, .inl (upd (fun _ => 0) 2 (-1))), .inl (cT 5, 2, .inr (.inr (.inr (.inr (va_up (va_up (fun _ => none) 0 (some (b + 78))) 1 (some (b + 80))))))), .inr (4, [.int 24, .int 3, .int 3, .ref (b + 79)]), .inl (cT 0, 97, .inl (fun _ => 0)), .inr (4, [.int 24, .int 3, .int 3, .ref (b + 81)]), .inl (cT 0, 97, .inl (fun _ => 0)), .inl (cT 6, 2, .inr (.inr (.inr (.inr (va_up (va_up (fun _ => none) 0 (some (b + 83))) 1 (some (b + 85))))))), .inr (3, [.int 8, .int 2, .int 12, .ref (b + 84)]), .inl (cT 0, 25, .inl (fun _ => 0)), .inr (3, [.int 8, .int 2, .int 12, .ref (b + 86)]), .inl (cT 0, 25, .inl (fun _ => 0)), .inl (cT 7, 2, .inr (.inr (.inr (.inr (va_up (va_up (fun _ => none) 0 (some (b + 88))) 1 (some (b + 90))))))), .inr (1, [.int 5, .int 2, .int 17, .ref (b + 89)]), .inl (cT 0, 16, .inl (fun _ => 0)), .inr (1, [.int 5, .int 2, .int 17, .ref (b + 91)]), .inl (cT 0, 16, .inl (fun _ => 0)), .inl (cT 0, 4, .inl (fun _ => 0)), .inl (cT 1, 600, .inl (fun _ => 0)), .inl (cT 2, 3, .inl (fun _ => 0)), .inl (cT 9, 4, .inr (.inr (.inr (.inr (va_up (fun _ => none) 0 (some (b + 96))))))), .inr (0, [.ref (b + 97)]), .inl (cT 0, 58, .inl (upd (fun _ => 0) 2 (-1)))]) H := hP
  refine lv_dup hx hb dX11_init_75 rfl ?_
  refine lv_iconst (v := 1) hx hb dX11_init_76 (by decide) ?_
  refine gb_new (ci := 4) (fs := [.int 0, .int 0, .int 0, .null]) (C := RX5) (T := TX5) (N := 4) hx hb hq i_X5 tyX5 tyX5_ok hown (hq _ w_155) (hq _ w_62) (hq _ w_7) hK hP hS 98 hz rfl rfl (fun j hj => by rcases (show j = 0 ∨ j = 1 ∨ j = 2 ∨ j = 3 by omega) with rfl | rfl | rfl | rfl <;> rfl) (Nat.le_of_ble_eq_true rfl) (Nat.le_of_ble_eq_true rfl) dX11_init_77 (fun H hP hz hS => ?_)
  have hP : va_P D vwCl (gb_wl b [.inr (9, [.ref (b + 1), .ref (b + 24), .ref (b + 94), .null, .null, .null, .null, .null, .null, .int 0]), .inr (8, [.ref (b + 2), .ref (b + 7), .ref (b + 12), .ref (b + 17), .ref (b + 22), .ref (b + 23), .int 0, .int 0, .int (-1)]), .inl (cT 4, 2, .inr (.inr (.inr (.inr (va_up (va_up (fun _ => none) 0 (some (b + 3))) 1 (some (b + 5))))))), .inr (0, [.ref (b + 4)]), .inl (cT 0, 58, .inl (upd (fun _ => 0) 2 (-1))), .inr (0, [.ref (b + 6)]), .inl (cT 0, 58, .inl (upd (fun _ => 0) 2 (-1))), .inl (cT 5, 2, .inr (.inr (.inr (.inr (va_up (va_up (fun _ => none) 0 (some (b + 8))) 1 (some (b + 10))))))), .inr (4, [.int 24, .int 3, .int 3, .ref (b + 9)]), .inl (cT 0, 97, .inl (fun _ => 0)), .inr (4, [.int 24, .int 3, .int 3, .ref (b + 11)]), .inl (cT 0, 97, .inl (fun _ => 0)), .inl (cT 6, 2, .inr (.inr (.inr (.inr (va_up (va_up (fun _ => none) 0 (some (b + 13))) 1 (some (b + 15))))))), .inr (3, [.int 8, .int 2, .int 12, .ref (b + 14)]), .inl (cT 0, 25, .inl (fun _ => 0)), .inr (3, [.int 8, .int 2, .int 12, .ref (b + 16)]), .inl (cT 0, 25, .inl (fun _ => 0)), .inl (cT 7, 2, .inr (.inr (.inr (.inr (va_up (va_up (fun _ => none) 0 (some (b + 18))) 1 (some (b + 20))))))), .inr (1, [.int 5, .int 2, .int 17, .ref (b + 19)]), .inl (cT 0, 16, .inl (fun _ => 0)), .inr (1, [.int 5, .int 2, .int 17, .ref (b + 21)]), .inl (cT 0, 16, .inl (fun _ => 0)), .inl (cT 0, 4, .inl (fun _ => 0)), .inl (cT 1, 600, .inl (fun _ => 0)), .inl (cT 8, 3, .inr (.inr (.inr (.inr (va_up (va_up (va_up (fun _ => none) 0 (some (b + 25))) 1 (some (b + 48))) 2 (some (b + 71))))))), .inr (8, [.ref (b + 26), .ref (b + 31), .ref (b + 36), .ref (b + 41), .ref (b + 46), .ref (b + 47), .int 0, .int 0, .int (-1)]), .inl (cT 4, 2, .inr (.inr (.inr (.inr (va_up (va_up (fun _ => none) 0 (some (b + 27))) 1 (some (b + 29))))))), .inr (0, [.ref (b + 28)]), .inl (cT 0, 58, .inl (upd (fun _ => 0) 2 (-1))), .inr (0, [.ref (b + 30)]), .inl (cT 0, 58, .inl (upd (fun _ => 0) 2 (-1))), .inl (cT 5, 2, .inr (.inr (.inr (.inr (va_up (va_up (fun _ => none) 0 (some (b + 32))) 1 (some (b + 34))))))), .inr (4, [.int 24, .int 3, .int 3, .ref (b + 33)]), .inl (cT 0, 97, .inl (fun _ => 0)), .inr (4, [.int 24, .int 3, .int 3, .ref (b + 35)]), .inl (cT 0, 97, .inl (fun _ => 0)), .inl (cT 6, 2, .inr (.inr (.inr (.inr (va_up (va_up (fun _ => none) 0 (some (b + 37))) 1 (some (b + 39))))))), .inr (3, [.int 8, .int 2, .int 12, .ref (b + 38)]), .inl (cT 0, 25, .inl (fun _ => 0)), .inr (3, [.int 8, .int 2, .int 12, .ref (b + 40)]), .inl (cT 0, 25, .inl (fun _ => 0)), .inl (cT 7, 2, .inr (.inr (.inr (.inr (va_up (va_up (fun _ => none) 0 (some (b + 42))) 1 (some (b + 44))))))), .inr (1, [.int 5, .int 2, .int 17, .ref (b + 43)]), .inl (cT 0, 16, .inl (fun _ => 0)), .inr (1, [.int 5, .int 2, .int 17, .ref (b + 45)]), .inl (cT 0, 16, .inl (fun _ => 0)), .inl (cT 0, 4, .inl (fun _ => 0)), .inl (cT 1, 600, .inl (fun _ => 0)), .inr (8, [.ref (b + 49), .ref (b + 54), .ref (b + 59), .ref (b + 64), .ref (b + 69), .ref (b + 70), .int 0, .int 0, .int (-1)]), .inl (cT 4, 2, .inr (.inr (.inr (.inr (va_up (va_up (fun _ => none) 0 (some (b + 50))) 1 (some (b + 52))))))), .inr (0, [.ref (b + 51)]), .inl (cT 0, 58, .inl (upd (fun _ => 0) 2 (-1))), .inr (0, [.ref (b + 53)]), .inl (cT 0, 58, .inl (upd (fun _ => 0) 2 (-1))), .inl (cT 5, 2, .inr (.inr (.inr (.inr (va_up (va_up (fun _ => none) 0 (some (b + 55))) 1 (some (b + 57))))))), .inr (4, [.int 24, .int 3, .int 3, .ref (b + 56)]), .inl (cT 0, 97, .inl (fun _ => 0)), .inr (4, [.int 24, .int 3, .int 3, .ref (b + 58)]), .inl (cT 0, 97, .inl (fun _ => 0)), .inl (cT 6, 2, .inr (.inr (.inr (.inr (va_up (va_up (fun _ => none) 0 (some (b + 60))) 1 (some (b + 62))))))), .inr (3, [.int 8, .int 2, .int 12, .ref (b + 61)]), .inl (cT 0, 25, .inl (fun _ => 0)), .inr (3, [.int 8, .int 2, .int 12, .ref (b + 63)]), .inl (cT 0, 25, .inl (fun _ => 0)), .inl (cT 7, 2, .inr (.inr (.inr (.inr (va_up (va_up (fun _ => none) 0 (some (b + 65))) 1 (some (b + 67))))))), .inr (1, [.int 5, .int 2, .int 17, .ref (b + 66)]), .inl (cT 0, 16, .inl (fun _ => 0)), .inr (1, [.int 5, .int 2, .int 17, .ref (b + 68)]), .inl (cT 0, 16, .inl (fun _ => 0)), .inl (cT 0, 4, .inl (fun _ => 0)), .inl (cT 1, 600, .inl (fun _ => 0)), .inr (8, [.ref (b + 72), .ref (b + 77), .ref (b + 82), .ref (b + 87), .ref (b + 92), .ref (b + 93), .int 0, .int 0, .int (-1)]), .inl (cT 4, 2, .inr (.inr (.inr (.inr (va_up (va_up (fun _ => none) 0 (some (b + 73))) 1 (some (b + 75))))))), .inr (0, [.ref (b + 74)]), .inl (cT 0, 58, .inl (upd (fun _ => 0) 2 (-1))), .inr (0, [.ref (b + 76)]), .inl (cT 0, 58, .inl (upd (fun _ => 0) 2 (-1))), .inl (cT 5, 2, .inr (.inr (.inr (.inr (va_up (va_up (fun _ => none) 0 (some (b + 78))) 1 (some (b + 80))))))), .inr (4, [.int 24, .int 3, .int 3, .ref (b + 79)]), .inl (cT 0, 97, .inl (fun _ => 0)), .inr (4, [.int 24, .int 3, .int 3, .ref (b + 81)]), .inl (cT 0, 97, .inl (fun _ => 0)), .inl (cT 6, 2, .inr (.inr (.inr (.inr (va_up (va_up (fun _ => none) 0 (some (b + 83))) 1 (some (b + 85))))))), .inr (3, [.int 8, .int 2, .int 12, .ref (b + 84)]), .inl (cT 0, 25, .inl (fun _ => 0)), .inr (3, [.int 8, .int 2, .int 12, .ref (b + 86)]), .inl (cT 0, 25, .inl (fun _ => 0)), .inl (cT 7, 2, .inr (.inr (.inr (.inr (va_up (va_up (fun _ => none) 0 (some (b + 88))) 1 (some (b + 90))))))), .inr (1, [.int 5, .int 2, .int 17, .ref (b + 89)]), .inl (cT 0, 16, .inl (fun _ => 0)), .inr (1, [.int 5, .int 2, .int 17, .ref (b + 91)]), .inl (cT 0, 16, .inl (fun _ => 0)), .inl (cT 0, 4, .inl (fun _ => 0)), .inl (cT 1, 600, .inl (fun _ => 0)), .inl (cT 2, 3, .inl (fun _ => 0)), .inl (cT 9, 4, .inr (.inr (.inr (.inr (va_up (fun _ => none) 0 (some (b + 96))))))), .inr (0, [.ref (b + 97)]), .inl (cT 0, 58, .inl (upd (fun _ => 0) 2 (-1))), .inr (4, [.int 0, .int 0, .int 0, .null])]) H := hP
  refine W.widen (k := 98) (n := 4229) (Nat.le_of_ble_eq_true rfl) (Nat.le_of_ble_eq_true rfl) ?_
  refine lv_dup hx hb dX11_init_80 rfl ?_
  have hPc := gb_drop hP 98 (suf := [.inr (4, [.int 0, .int 0, .int 0, .null])]) rfl rfl
  refine gb_callv (va_runI (As := []) (rest := [.ref (b + 98), .int 1, .ref (b + 95), .ref (b + 95), .ref (b + 0)]) ⟨hx, hb, hml, hown, hq⟩ (k_X5_init l D cT tt b1 (b + 98) (Nat.le_trans hb1 (Nat.le_add_right b 98))) (cwI 0 hq (gb_gI w_65) rfl rfl rfl (hq _ w_7) (hq _ w_156) (hq _ w_64) rfl (by decide +kernel) ⟨Nat.le_of_ble_eq_true rfl, Nat.le_of_ble_eq_true rfl⟩) (gb_preS hSt hS (fun q h => Nat.le_trans hb1 h) (show va_P D vwCl (gb_wl (b + 98) [.inr (4, [.int 0, .int 0, .int 0, .null])]) H ∧ Array.size H = b + 98 + 1 from ⟨hPc, hz⟩)) rfl rfl hl.1 rfl (lv_room (Nat.le_of_ble_eq_true rfl)) dX11_init_81 ⟨Nat.le_of_ble_eq_true rfl, Nat.le_of_ble_eq_true rfl⟩) hS (fun q h => Nat.le_trans (Nat.le_add_right b 98) h) (fun q h => Nat.le_trans (Nat.le_add_right b 98) h) (fun H locs hY hk hS => ?_)
  have hP := gb_glue hP 98 (pre := [.inr (9, [.ref (b + 1), .ref (b + 24), .ref (b + 94), .null, .null, .null, .null, .null, .null, .int 0]), .inr (8, [.ref (b + 2), .ref (b + 7), .ref (b + 12), .ref (b + 17), .ref (b + 22), .ref (b + 23), .int 0, .int 0, .int (-1)]), .inl (cT 4, 2, .inr (.inr (.inr (.inr (va_up (va_up (fun _ => none) 0 (some (b + 3))) 1 (some (b + 5))))))), .inr (0, [.ref (b + 4)]), .inl (cT 0, 58, .inl (upd (fun _ => 0) 2 (-1))), .inr (0, [.ref (b + 6)]), .inl (cT 0, 58, .inl (upd (fun _ => 0) 2 (-1))), .inl (cT 5, 2, .inr (.inr (.inr (.inr (va_up (va_up (fun _ => none) 0 (some (b + 8))) 1 (some (b + 10))))))), .inr (4, [.int 24, .int 3, .int 3, .ref (b + 9)]), .inl (cT 0, 97, .inl (fun _ => 0)), .inr (4, [.int 24, .int 3, .int 3, .ref (b + 11)]), .inl (cT 0, 97, .inl (fun _ => 0)), .inl (cT 6, 2, .inr (.inr (.inr (.inr (va_up (va_up (fun _ => none) 0 (some (b + 13))) 1 (some (b + 15))))))), .inr (3, [.int 8, .int 2, .int 12, .ref (b + 14)]), .inl (cT 0, 25, .inl (fun _ => 0)), .inr (3, [.int 8, .int 2, .int 12, .ref (b + 16)]), .inl (cT 0, 25, .inl (fun _ => 0)), .inl (cT 7, 2, .inr (.inr (.inr (.inr (va_up (va_up (fun _ => none) 0 (some (b + 18))) 1 (some (b + 20))))))), .inr (1, [.int 5, .int 2, .int 17, .ref (b + 19)]), .inl (cT 0, 16, .inl (fun _ => 0)), .inr (1, [.int 5, .int 2, .int 17, .ref (b + 21)]), .inl (cT 0, 16, .inl (fun _ => 0)), .inl (cT 0, 4, .inl (fun _ => 0)), .inl (cT 1, 600, .inl (fun _ => 0)), .inl (cT 8, 3, .inr (.inr (.inr (.inr (va_up (va_up (va_up (fun _ => none) 0 (some (b + 25))) 1 (some (b + 48))) 2 (some (b + 71))))))), .inr (8, [.ref (b + 26), .ref (b + 31), .ref (b + 36), .ref (b + 41), .ref (b + 46), .ref (b + 47), .int 0, .int 0, .int (-1)]), .inl (cT 4, 2, .inr (.inr (.inr (.inr (va_up (va_up (fun _ => none) 0 (some (b + 27))) 1 (some (b + 29))))))), .inr (0, [.ref (b + 28)]), .inl (cT 0, 58, .inl (upd (fun _ => 0) 2 (-1))), .inr (0, [.ref (b + 30)]), .inl (cT 0, 58, .inl (upd (fun _ => 0) 2 (-1))), .inl (cT 5, 2, .inr (.inr (.inr (.inr (va_up (va_up (fun _ => none) 0 (some (b + 32))) 1 (some (b + 34))))))), .inr (4, [.int 24, .int 3, .int 3, .ref (b + 33)]), .inl (cT 0, 97, .inl (fun _ => 0)), .inr (4, [.int 24, .int 3, .int 3, .ref (b + 35)]), .inl (cT 0, 97, .inl (fun _ => 0)), .inl (cT 6, 2, .inr (.inr (.inr (.inr (va_up (va_up (fun _ => none) 0 (some (b + 37))) 1 (some (b + 39))))))), .inr (3, [.int 8, .int 2, .int 12, .ref (b + 38)]), .inl (cT 0, 25, .inl (fun _ => 0)), .inr (3, [.int 8, .int 2, .int 12, .ref (b + 40)]), .inl (cT 0, 25, .inl (fun _ => 0)), .inl (cT 7, 2, .inr (.inr (.inr (.inr (va_up (va_up (fun _ => none) 0 (some (b + 42))) 1 (some (b + 44))))))), .inr (1, [.int 5, .int 2, .int 17, .ref (b + 43)]), .inl (cT 0, 16, .inl (fun _ => 0)), .inr (1, [.int 5, .int 2, .int 17, .ref (b + 45)]), .inl (cT 0, 16, .inl (fun _ => 0)), .inl (cT 0, 4, .inl (fun _ => 0)), .inl (cT 1, 600, .inl (fun _ => 0)), .inr (8, [.ref (b + 49), .ref (b + 54), .ref (b + 59), .ref (b + 64), .ref (b + 69), .ref (b + 70), .int 0, .int 0, .int (-1)]), .inl (cT 4, 2, .inr (.inr (.inr (.inr (va_up (va_up (fun _ => none) 0 (some (b + 50))) 1 (some (b + 52))))))), .inr (0, [.ref (b + 51)]), .inl (cT 0, 58, .inl (upd (fun _ => 0) 2 (-1))), .inr (0, [.ref (b + 53)]), .inl (cT 0, 58, .inl (upd (fun _ => 0) 2 (-1))), .inl (cT 5, 2, .inr (.inr (.inr (.inr (va_up (va_up (fun _ => none) 0 (some (b + 55))) 1 (some (b + 57))))))), .inr (4, [.int 24, .int 3, .int 3, .ref (b + 56)]), .inl (cT 0, 97, .inl (fun _ => 0)), .inr (4, [.int 24, .int 3, .int 3, .ref (b + 58)]), .inl (cT 0, 97, .inl (fun _ => 0)), .inl (cT 6, 2, .inr (.inr (.inr (.inr (va_up (va_up (fun _ => none) 0 (some (b + 60))) 1 (some (b + 62))))))), .inr (3, [.int 8, .int 2, .int 12, .ref (b + 61)]), .inl (cT 0, 25, .inl (fun _ => 0)), .inr (3, [.int 8, .int 2, .int 12, .ref (b + 63)]), .inl (cT 0, 25, .inl (fun _ => 0)), .inl (cT 7, 2, .inr (.inr (.inr (.inr (va_up (va_up (fun _ => none) 0 (some (b + 65))) 1 (some (b + 67))))))), .inr (1, [.int 5, .int 2, .int 17, .ref (b + 66)]), .inl (cT 0, 16, .inl (fun _ => 0)), .inr (1, [.int 5, .int 2, .int 17, .ref (b + 68)]), .inl (cT 0, 16, .inl (fun _ => 0)), .inl (cT 0, 4, .inl (fun _ => 0)), .inl (cT 1, 600, .inl (fun _ => 0)), .inr (8, [.ref (b + 72), .ref (b + 77), .ref (b + 82), .ref (b + 87), .ref (b + 92), .ref (b + 93), .int 0, .int 0, .int (-1)]), .inl (cT 4, 2, .inr (.inr (.inr (.inr (va_up (va_up (fun _ => none) 0 (some (b + 73))) 1 (some (b + 75))))))), .inr (0, [.ref (b + 74)]), .inl (cT 0, 58, .inl (upd (fun _ => 0) 2 (-1))), .inr (0, [.ref (b + 76)]), .inl (cT 0, 58, .inl (upd (fun _ => 0) 2 (-1))), .inl (cT 5, 2, .inr (.inr (.inr (.inr (va_up (va_up (fun _ => none) 0 (some (b + 78))) 1 (some (b + 80))))))), .inr (4, [.int 24, .int 3, .int 3, .ref (b + 79)]), .inl (cT 0, 97, .inl (fun _ => 0)), .inr (4, [.int 24, .int 3, .int 3, .ref (b + 81)]), .inl (cT 0, 97, .inl (fun _ => 0)), .inl (cT 6, 2, .inr (.inr (.inr (.inr (va_up (va_up (fun _ => none) 0 (some (b + 83))) 1 (some (b + 85))))))), .inr (3, [.int 8, .int 2, .int 12, .ref (b + 84)]), .inl (cT 0, 25, .inl (fun _ => 0)), .inr (3, [.int 8, .int 2, .int 12, .ref (b + 86)]), .inl (cT 0, 25, .inl (fun _ => 0)), .inl (cT 7, 2, .inr (.inr (.inr (.inr (va_up (va_up (fun _ => none) 0 (some (b + 88))) 1 (some (b + 90))))))), .inr (1, [.int 5, .int 2, .int 17, .ref (b + 89)]), .inl (cT 0, 16, .inl (fun _ => 0)), .inr (1, [.int 5, .int 2, .int 17, .ref (b + 91)]), .inl (cT 0, 16, .inl (fun _ => 0)), .inl (cT 0, 4, .inl (fun _ => 0)), .inl (cT 1, 600, .inl (fun _ => 0)), .inl (cT 2, 3, .inl (fun _ => 0)), .inl (cT 9, 4, .inr (.inr (.inr (.inr (va_up (fun _ => none) 0 (some (b + 96))))))), .inr (0, [.ref (b + 97)]), .inl (cT 0, 58, .inl (upd (fun _ => 0) 2 (-1)))]) rfl rfl hk hY.1
  have hP : va_P D vwCl (gb_wl b [.inr (9, [.ref (b + 1), .ref (b + 24), .ref (b + 94), .null, .null, .null, .null, .null, .null, .int 0]), .inr (8, [.ref (b + 2), .ref (b + 7), .ref (b + 12), .ref (b + 17), .ref (b + 22), .ref (b + 23), .int 0, .int 0, .int (-1)]), .inl (cT 4, 2, .inr (.inr (.inr (.inr (va_up (va_up (fun _ => none) 0 (some (b + 3))) 1 (some (b + 5))))))), .inr (0, [.ref (b + 4)]), .inl (cT 0, 58, .inl (upd (fun _ => 0) 2 (-1))), .inr (0, [.ref (b + 6)]), .inl (cT 0, 58, .inl (upd (fun _ => 0) 2 (-1))), .inl (cT 5, 2, .inr (.inr (.inr (.inr (va_up (va_up (fun _ => none) 0 (some (b + 8))) 1 (some (b + 10))))))), .inr (4, [.int 24, .int 3, .int 3, .ref (b + 9)]), .inl (cT 0, 97, .inl (fun _ => 0)), .inr (4, [.int 24, .int 3, .int 3, .ref (b + 11)]), .inl (cT 0, 97, .inl (fun _ => 0)), .inl (cT 6, 2, .inr (.inr (.inr (.inr (va_up (va_up (fun _ => none) 0 (some (b + 13))) 1 (some (b + 15))))))), .inr (3, [.int 8, .int 2, .int 12, .ref (b + 14)]), .inl (cT 0, 25, .inl (fun _ => 0)), .inr (3, [.int 8, .int 2, .int 12, .ref (b + 16)]), .inl (cT 0, 25, .inl (fun _ => 0)), .inl (cT 7, 2, .inr (.inr (.inr (.inr (va_up (va_up (fun _ => none) 0 (some (b + 18))) 1 (some (b + 20))))))), .inr (1, [.int 5, .int 2, .int 17, .ref (b + 19)]), .inl (cT 0, 16, .inl (fun _ => 0)), .inr (1, [.int 5, .int 2, .int 17, .ref (b + 21)]), .inl (cT 0, 16, .inl (fun _ => 0)), .inl (cT 0, 4, .inl (fun _ => 0)), .inl (cT 1, 600, .inl (fun _ => 0)), .inl (cT 8, 3, .inr (.inr (.inr (.inr (va_up (va_up (va_up (fun _ => none) 0 (some (b + 25))) 1 (some (b + 48))) 2 (some (b + 71))))))), .inr (8, [.ref (b + 26), .ref (b + 31), .ref (b + 36), .ref (b + 41), .ref (b + 46), .ref (b + 47), .int 0, .int 0, .int (-1)]), .inl (cT 4, 2, .inr (.inr (.inr (.inr (va_up (va_up (fun _ => none) 0 (some (b + 27))) 1 (some (b + 29))))))), .inr (0, [.ref (b + 28)]), .inl (cT 0, 58, .inl (upd (fun _ => 0) 2 (-1))), .inr (0, [.ref (b + 30)]), .inl (cT 0, 58, .inl (upd (fun _ => 0) 2 (-1))), .inl (cT 5, 2, .inr (.inr (.inr (.inr (va_up (va_up (fun _ => none) 0 (some (b + 32))) 1 (some (b + 34))))))), .inr (4, [.int 24, .int 3, .int 3, .ref (b + 33)]), .inl (cT 0, 97, .inl (fun _ => 0)), .inr (4, [.int 24, .int 3, .int 3, .ref (b + 35)]), .inl (cT 0, 97, .inl (fun _ => 0)), .inl (cT 6, 2, .inr (.inr (.inr (.inr (va_up (va_up (fun _ => none) 0 (some (b + 37))) 1 (some (b + 39))))))), .inr (3, [.int 8, .int 2, .int 12, .ref (b + 38)]), .inl (cT 0, 25, .inl (fun _ => 0)), .inr (3, [.int 8, .int 2, .int 12, .ref (b + 40)]), .inl (cT 0, 25, .inl (fun _ => 0)), .inl (cT 7, 2, .inr (.inr (.inr (.inr (va_up (va_up (fun _ => none) 0 (some (b + 42))) 1 (some (b + 44))))))), .inr (1, [.int 5, .int 2, .int 17, .ref (b + 43)]), .inl (cT 0, 16, .inl (fun _ => 0)), .inr (1, [.int 5, .int 2, .int 17, .ref (b + 45)]), .inl (cT 0, 16, .inl (fun _ => 0)), .inl (cT 0, 4, .inl (fun _ => 0)), .inl (cT 1, 600, .inl (fun _ => 0)), .inr (8, [.ref (b + 49), .ref (b + 54), .ref (b + 59), .ref (b + 64), .ref (b + 69), .ref (b + 70), .int 0, .int 0, .int (-1)]), .inl (cT 4, 2, .inr (.inr (.inr (.inr (va_up (va_up (fun _ => none) 0 (some (b + 50))) 1 (some (b + 52))))))), .inr (0, [.ref (b + 51)]), .inl (cT 0, 58, .inl (upd (fun _ => 0) 2 (-1))), .inr (0, [.ref (b + 53)]), .inl (cT 0, 58, .inl (upd (fun _ => 0) 2 (-1))), .inl (cT 5, 2, .inr (.inr (.inr (.inr (va_up (va_up (fun _ => none) 0 (some (b + 55))) 1 (some (b + 57))))))), .inr (4, [.int 24, .int 3, .int 3, .ref (b + 56)]), .inl (cT 0, 97, .inl (fun _ => 0)), .inr (4, [.int 24, .int 3, .int 3, .ref (b + 58)]), .inl (cT 0, 97, .inl (fun _ => 0)), .inl (cT 6, 2, .inr (.inr (.inr (.inr (va_up (va_up (fun _ => none) 0 (some (b + 60))) 1 (some (b + 62))))))), .inr (3, [.int 8, .int 2, .int 12, .ref (b + 61)]), .inl (cT 0, 25, .inl (fun _ => 0)), .inr (3, [.int 8, .int 2, .int 12, .ref (b + 63)]), .inl (cT 0, 25, .inl (fun _ => 0)), .inl (cT 7, 2, .inr (.inr (.inr (.inr (va_up (va_up (fun _ => none) 0 (some (b + 65))) 1 (some (b + 67))))))), .inr (1, [.int 5, .int 2, .int 17, .ref (b + 66)]), .inl (cT 0, 16, .inl (fun _ => 0)), .inr (1, [.int 5, .int 2, .int 17, .ref (b + 68)]), .inl (cT 0, 16, .inl (fun _ => 0)), .inl (cT 0, 4, .inl (fun _ => 0)), .inl (cT 1, 600, .inl (fun _ => 0)), .inr (8, [.ref (b + 72), .ref (b + 77), .ref (b + 82), .ref (b + 87), .ref (b + 92), .ref (b + 93), .int 0, .int 0, .int (-1)]), .inl (cT 4, 2, .inr (.inr (.inr (.inr (va_up (va_up (fun _ => none) 0 (some (b + 73))) 1 (some (b + 75))))))), .inr (0, [.ref (b + 74)]), .inl (cT 0, 58, .inl (upd (fun _ => 0) 2 (-1))), .inr (0, [.ref (b + 76)]), .inl (cT 0, 58, .inl (upd (fun _ => 0) 2 (-1))), .inl (cT 5, 2, .inr (.inr (.inr (.inr (va_up (va_up (fun _ => none) 0 (some (b + 78))) 1 (some (b + 80))))))), .inr (4, [.int 24, .int 3, .int 3, .ref (b + 79)]), .inl (cT 0, 97, .inl (fun _ => 0)), .inr (4, [.int 24, .int 3, .int 3, .ref (b + 81)]), .inl (cT 0, 97, .inl (fun _ => 0)), .inl (cT 6, 2, .inr (.inr (.inr (.inr (va_up (va_up (fun _ => none) 0 (some (b + 83))) 1 (some (b + 85))))))), .inr (3, [.int 8, .int 2, .int 12, .ref (b + 84)]), .inl (cT 0, 25, .inl (fun _ => 0)), .inr (3, [.int 8, .int 2, .int 12, .ref (b + 86)]), .inl (cT 0, 25, .inl (fun _ => 0)), .inl (cT 7, 2, .inr (.inr (.inr (.inr (va_up (va_up (fun _ => none) 0 (some (b + 88))) 1 (some (b + 90))))))), .inr (1, [.int 5, .int 2, .int 17, .ref (b + 89)]), .inl (cT 0, 16, .inl (fun _ => 0)), .inr (1, [.int 5, .int 2, .int 17, .ref (b + 91)]), .inl (cT 0, 16, .inl (fun _ => 0)), .inl (cT 0, 4, .inl (fun _ => 0)), .inl (cT 1, 600, .inl (fun _ => 0)), .inl (cT 2, 3, .inl (fun _ => 0)), .inl (cT 9, 4, .inr (.inr (.inr (.inr (va_up (fun _ => none) 0 (some (b + 96))))))), .inr (0, [.ref (b + 97)]), .inl (cT 0, 58, .inl (upd (fun _ => 0) 2 (-1))), .inr (4, [.int 24, .int 3, .int 3, .ref (b + 99)]), .inl (cT 0, 97, .inl (fun _ => 0))]) H := hP
  have hz : Array.size H = b + 100 := hY.2
  refine W.widen (k := 99) (n := 4326) (Nat.le_of_ble_eq_true rfl) (Nat.le_of_ble_eq_true rfl) ?_
  refine gb_astq (E := "GooseBorder$Sheet") hx hb hK hP (fun k _ => Nat.le_add_right b k) hS hz 95 9 98 4 rfl rfl (Or.inr (hSt.2.1 _ gb_n1735)) rfl rfl (gb_in rfl) dX11_init_84 (fun H locs hP hz hS => ?_)
  have hP : va_P D vwCl (gb_wl b [.inr (9, [.ref (b + 1), .ref (b + 24), .ref (b + 94), .null, .null, .null, .null, .null, .null, .int 0]), .inr (8, [.ref (b + 2), .ref (b + 7), .ref (b + 12), .ref (b + 17), .ref (b + 22), .ref (b + 23), .int 0, .int 0, .int (-1)]), .inl (cT 4, 2, .inr (.inr (.inr (.inr (va_up (va_up (fun _ => none) 0 (some (b + 3))) 1 (some (b + 5))))))), .inr (0, [.ref (b + 4)]), .inl (cT 0, 58, .inl (upd (fun _ => 0) 2 (-1))), .inr (0, [.ref (b + 6)]), .inl (cT 0, 58, .inl (upd (fun _ => 0) 2 (-1))), .inl (cT 5, 2, .inr (.inr (.inr (.inr (va_up (va_up (fun _ => none) 0 (some (b + 8))) 1 (some (b + 10))))))), .inr (4, [.int 24, .int 3, .int 3, .ref (b + 9)]), .inl (cT 0, 97, .inl (fun _ => 0)), .inr (4, [.int 24, .int 3, .int 3, .ref (b + 11)]), .inl (cT 0, 97, .inl (fun _ => 0)), .inl (cT 6, 2, .inr (.inr (.inr (.inr (va_up (va_up (fun _ => none) 0 (some (b + 13))) 1 (some (b + 15))))))), .inr (3, [.int 8, .int 2, .int 12, .ref (b + 14)]), .inl (cT 0, 25, .inl (fun _ => 0)), .inr (3, [.int 8, .int 2, .int 12, .ref (b + 16)]), .inl (cT 0, 25, .inl (fun _ => 0)), .inl (cT 7, 2, .inr (.inr (.inr (.inr (va_up (va_up (fun _ => none) 0 (some (b + 18))) 1 (some (b + 20))))))), .inr (1, [.int 5, .int 2, .int 17, .ref (b + 19)]), .inl (cT 0, 16, .inl (fun _ => 0)), .inr (1, [.int 5, .int 2, .int 17, .ref (b + 21)]), .inl (cT 0, 16, .inl (fun _ => 0)), .inl (cT 0, 4, .inl (fun _ => 0)), .inl (cT 1, 600, .inl (fun _ => 0)), .inl (cT 8, 3, .inr (.inr (.inr (.inr (va_up (va_up (va_up (fun _ => none) 0 (some (b + 25))) 1 (some (b + 48))) 2 (some (b + 71))))))), .inr (8, [.ref (b + 26), .ref (b + 31), .ref (b + 36), .ref (b + 41), .ref (b + 46), .ref (b + 47), .int 0, .int 0, .int (-1)]), .inl (cT 4, 2, .inr (.inr (.inr (.inr (va_up (va_up (fun _ => none) 0 (some (b + 27))) 1 (some (b + 29))))))), .inr (0, [.ref (b + 28)]), .inl (cT 0, 58, .inl (upd (fun _ => 0) 2 (-1))), .inr (0, [.ref (b + 30)]), .inl (cT 0, 58, .inl (upd (fun _ => 0) 2 (-1))), .inl (cT 5, 2, .inr (.inr (.inr (.inr (va_up (va_up (fun _ => none) 0 (some (b + 32))) 1 (some (b + 34))))))), .inr (4, [.int 24, .int 3, .int 3, .ref (b + 33)]), .inl (cT 0, 97, .inl (fun _ => 0)), .inr (4, [.int 24, .int 3, .int 3, .ref (b + 35)]), .inl (cT 0, 97, .inl (fun _ => 0)), .inl (cT 6, 2, .inr (.inr (.inr (.inr (va_up (va_up (fun _ => none) 0 (some (b + 37))) 1 (some (b + 39))))))), .inr (3, [.int 8, .int 2, .int 12, .ref (b + 38)]), .inl (cT 0, 25, .inl (fun _ => 0)), .inr (3, [.int 8, .int 2, .int 12, .ref (b + 40)]), .inl (cT 0, 25, .inl (fun _ => 0)), .inl (cT 7, 2, .inr (.inr (.inr (.inr (va_up (va_up (fun _ => none) 0 (some (b + 42))) 1 (some (b + 44))))))), .inr (1, [.int 5, .int 2, .int 17, .ref (b + 43)]), .inl (cT 0, 16, .inl (fun _ => 0)), .inr (1, [.int 5, .int 2, .int 17, .ref (b + 45)]), .inl (cT 0, 16, .inl (fun _ => 0)), .inl (cT 0, 4, .inl (fun _ => 0)), .inl (cT 1, 600, .inl (fun _ => 0)), .inr (8, [.ref (b + 49), .ref (b + 54), .ref (b + 59), .ref (b + 64), .ref (b + 69), .ref (b + 70), .int 0, .int 0, .int (-1)]), .inl (cT 4, 2, .inr (.inr (.inr (.inr (va_up (va_up (fun _ => none) 0 (some (b + 50))) 1 (some (b + 52))))))), .inr (0, [.ref (b + 51)]), .inl (cT 0, 58, .inl (upd (fun _ => 0) 2 (-1))), .inr (0, [.ref (b + 53)]), .inl (cT 0, 58, .inl (upd (fun _ => 0) 2 (-1))), .inl (cT 5, 2, .inr (.inr (.inr (.inr (va_up (va_up (fun _ => none) 0 (some (b + 55))) 1 (some (b + 57))))))), .inr (4, [.int 24, .int 3, .int 3, .ref (b + 56)]), .inl (cT 0, 97, .inl (fun _ => 0)), .inr (4, [.int 24, .int 3, .int 3, .ref (b + 58)]), .inl (cT 0, 97, .inl (fun _ => 0)), .inl (cT 6, 2, .inr (.inr (.inr (.inr (va_up (va_up (fun _ => none) 0 (some (b + 60))) 1 (some (b + 62))))))), .inr (3, [.int 8, .int 2, .int 12, .ref (b + 61)]), .inl (cT 0, 25, .inl (fun _ => 0)), .inr (3, [.int 8, .int 2, .int 12, .ref (b + 63)]), .inl (cT 0, 25, .inl (fun _ => 0)), .inl (cT 7, 2, .inr (.inr (.inr (.inr (va_up (va_up (fun _ => none) 0 (some (b + 65))) 1 (some (b + 67))))))), .inr (1, [.int 5, .int 2, .int 17, .ref (b + 66)]), .inl (cT 0, 16, .inl (fun _ => 0)), .inr (1, [.int 5, .int 2, .int 17, .ref (b + 68)]), .inl (cT 0, 16, .inl (fun _ => 0)), .inl (cT 0, 4, .inl (fun _ => 0)), .inl (cT 1, 600, .inl (fun _ => 0)), .inr (8, [.ref (b + 72), .ref (b + 77), .ref (b + 82), .ref (b + 87), .ref (b + 92), .ref (b + 93), .int 0, .int 0, .int (-1)]), .inl (cT 4, 2, .inr (.inr (.inr (.inr (va_up (va_up (fun _ => none) 0 (some (b + 73))) 1 (some (b + 75))))))), .inr (0, [.ref (b + 74)]), .inl (cT 0, 58, .inl (upd (fun _ => 0) 2 (-1))), .inr (0, [.ref (b + 76)]), .inl (cT 0, 58, .inl (upd (fun _ => 0) 2 (-1))), .inl (cT 5, 2, .inr (.inr (.inr (.inr (va_up (va_up (fun _ => none) 0 (some (b + 78))) 1 (some (b + 80))))))), .inr (4, [.int 24, .int 3, .int 3, .ref (b + 79)]), .inl (cT 0, 97, .inl (fun _ => 0)), .inr (4, [.int 24, .int 3, .int 3, .ref (b + 81)]), .inl (cT 0, 97, .inl (fun _ => 0)), .inl (cT 6, 2, .inr (.inr (.inr (.inr (va_up (va_up (fun _ => none) 0 (some (b + 83))) 1 (some (b + 85))))))), .inr (3, [.int 8, .int 2, .int 12, .ref (b + 84)]), .inl (cT 0, 25, .inl (fun _ => 0)), .inr (3, [.int 8, .int 2, .int 12, .ref (b + 86)]), .inl (cT 0, 25, .inl (fun _ => 0)), .inl (cT 7, 2, .inr (.inr (.inr (.inr (va_up (va_up (fun _ => none) 0 (some (b + 88))) 1 (some (b + 90))))))), .inr (1, [.int 5, .int 2, .int 17, .ref (b + 89)]), .inl (cT 0, 16, .inl (fun _ => 0)), .inr (1, [.int 5, .int 2, .int 17, .ref (b + 91)]), .inl (cT 0, 16, .inl (fun _ => 0)), .inl (cT 0, 4, .inl (fun _ => 0)), .inl (cT 1, 600, .inl (fun _ => 0)), .inl (cT 2, 3, .inl (fun _ => 0)), .inl (cT 9, 4, .inr (.inr (.inr (.inr (va_up (va_up (fun _ => none) 0 (some (b + 96))) 1 (some (b + 98))))))), .inr (0, [.ref (b + 97)]), .inl (cT 0, 58, .inl (upd (fun _ => 0) 2 (-1))), .inr (4, [.int 24, .int 3, .int 3, .ref (b + 99)]), .inl (cT 0, 97, .inl (fun _ => 0))]) H := hP
  refine lv_dup hx hb dX11_init_85 rfl ?_
  refine lv_iconst (v := 2) hx hb dX11_init_86 (by decide) ?_
  refine gb_new (ci := 3) (fs := [.int 0, .int 0, .int 0, .null]) (C := RX3) (T := TX3) (N := 4) hx hb hq i_X3 tyX3 tyX3_ok hown (hq _ w_157) (hq _ w_88) (hq _ w_8) hK hP hS 100 hz rfl rfl (fun j hj => by rcases (show j = 0 ∨ j = 1 ∨ j = 2 ∨ j = 3 by omega) with rfl | rfl | rfl | rfl <;> rfl) (Nat.le_of_ble_eq_true rfl) (Nat.le_of_ble_eq_true rfl) dX11_init_87 (fun H hP hz hS => ?_)
  have hP : va_P D vwCl (gb_wl b [.inr (9, [.ref (b + 1), .ref (b + 24), .ref (b + 94), .null, .null, .null, .null, .null, .null, .int 0]), .inr (8, [.ref (b + 2), .ref (b + 7), .ref (b + 12), .ref (b + 17), .ref (b + 22), .ref (b + 23), .int 0, .int 0, .int (-1)]), .inl (cT 4, 2, .inr (.inr (.inr (.inr (va_up (va_up (fun _ => none) 0 (some (b + 3))) 1 (some (b + 5))))))), .inr (0, [.ref (b + 4)]), .inl (cT 0, 58, .inl (upd (fun _ => 0) 2 (-1))), .inr (0, [.ref (b + 6)]), .inl (cT 0, 58, .inl (upd (fun _ => 0) 2 (-1))), .inl (cT 5, 2, .inr (.inr (.inr (.inr (va_up (va_up (fun _ => none) 0 (some (b + 8))) 1 (some (b + 10))))))), .inr (4, [.int 24, .int 3, .int 3, .ref (b + 9)]), .inl (cT 0, 97, .inl (fun _ => 0)), .inr (4, [.int 24, .int 3, .int 3, .ref (b + 11)]), .inl (cT 0, 97, .inl (fun _ => 0)), .inl (cT 6, 2, .inr (.inr (.inr (.inr (va_up (va_up (fun _ => none) 0 (some (b + 13))) 1 (some (b + 15))))))), .inr (3, [.int 8, .int 2, .int 12, .ref (b + 14)]), .inl (cT 0, 25, .inl (fun _ => 0)), .inr (3, [.int 8, .int 2, .int 12, .ref (b + 16)]), .inl (cT 0, 25, .inl (fun _ => 0)), .inl (cT 7, 2, .inr (.inr (.inr (.inr (va_up (va_up (fun _ => none) 0 (some (b + 18))) 1 (some (b + 20))))))), .inr (1, [.int 5, .int 2, .int 17, .ref (b + 19)]), .inl (cT 0, 16, .inl (fun _ => 0)), .inr (1, [.int 5, .int 2, .int 17, .ref (b + 21)]), .inl (cT 0, 16, .inl (fun _ => 0)), .inl (cT 0, 4, .inl (fun _ => 0)), .inl (cT 1, 600, .inl (fun _ => 0)), .inl (cT 8, 3, .inr (.inr (.inr (.inr (va_up (va_up (va_up (fun _ => none) 0 (some (b + 25))) 1 (some (b + 48))) 2 (some (b + 71))))))), .inr (8, [.ref (b + 26), .ref (b + 31), .ref (b + 36), .ref (b + 41), .ref (b + 46), .ref (b + 47), .int 0, .int 0, .int (-1)]), .inl (cT 4, 2, .inr (.inr (.inr (.inr (va_up (va_up (fun _ => none) 0 (some (b + 27))) 1 (some (b + 29))))))), .inr (0, [.ref (b + 28)]), .inl (cT 0, 58, .inl (upd (fun _ => 0) 2 (-1))), .inr (0, [.ref (b + 30)]), .inl (cT 0, 58, .inl (upd (fun _ => 0) 2 (-1))), .inl (cT 5, 2, .inr (.inr (.inr (.inr (va_up (va_up (fun _ => none) 0 (some (b + 32))) 1 (some (b + 34))))))), .inr (4, [.int 24, .int 3, .int 3, .ref (b + 33)]), .inl (cT 0, 97, .inl (fun _ => 0)), .inr (4, [.int 24, .int 3, .int 3, .ref (b + 35)]), .inl (cT 0, 97, .inl (fun _ => 0)), .inl (cT 6, 2, .inr (.inr (.inr (.inr (va_up (va_up (fun _ => none) 0 (some (b + 37))) 1 (some (b + 39))))))), .inr (3, [.int 8, .int 2, .int 12, .ref (b + 38)]), .inl (cT 0, 25, .inl (fun _ => 0)), .inr (3, [.int 8, .int 2, .int 12, .ref (b + 40)]), .inl (cT 0, 25, .inl (fun _ => 0)), .inl (cT 7, 2, .inr (.inr (.inr (.inr (va_up (va_up (fun _ => none) 0 (some (b + 42))) 1 (some (b + 44))))))), .inr (1, [.int 5, .int 2, .int 17, .ref (b + 43)]), .inl (cT 0, 16, .inl (fun _ => 0)), .inr (1, [.int 5, .int 2, .int 17, .ref (b + 45)]), .inl (cT 0, 16, .inl (fun _ => 0)), .inl (cT 0, 4, .inl (fun _ => 0)), .inl (cT 1, 600, .inl (fun _ => 0)), .inr (8, [.ref (b + 49), .ref (b + 54), .ref (b + 59), .ref (b + 64), .ref (b + 69), .ref (b + 70), .int 0, .int 0, .int (-1)]), .inl (cT 4, 2, .inr (.inr (.inr (.inr (va_up (va_up (fun _ => none) 0 (some (b + 50))) 1 (some (b + 52))))))), .inr (0, [.ref (b + 51)]), .inl (cT 0, 58, .inl (upd (fun _ => 0) 2 (-1))), .inr (0, [.ref (b + 53)]), .inl (cT 0, 58, .inl (upd (fun _ => 0) 2 (-1))), .inl (cT 5, 2, .inr (.inr (.inr (.inr (va_up (va_up (fun _ => none) 0 (some (b + 55))) 1 (some (b + 57))))))), .inr (4, [.int 24, .int 3, .int 3, .ref (b + 56)]), .inl (cT 0, 97, .inl (fun _ => 0)), .inr (4, [.int 24, .int 3, .int 3, .ref (b + 58)]), .inl (cT 0, 97, .inl (fun _ => 0)), .inl (cT 6, 2, .inr (.inr (.inr (.inr (va_up (va_up (fun _ => none) 0 (some (b + 60))) 1 (some (b + 62))))))), .inr (3, [.int 8, .int 2, .int 12, .ref (b + 61)]), .inl (cT 0, 25, .inl (fun _ => 0)), .inr (3, [.int 8, .int 2, .int 12, .ref (b + 63)]), .inl (cT 0, 25, .inl (fun _ => 0)), .inl (cT 7, 2, .inr (.inr (.inr (.inr (va_up (va_up (fun _ => none) 0 (some (b + 65))) 1 (some (b + 67))))))), .inr (1, [.int 5, .int 2, .int 17, .ref (b + 66)]), .inl (cT 0, 16, .inl (fun _ => 0)), .inr (1, [.int 5, .int 2, .int 17, .ref (b + 68)]), .inl (cT 0, 16, .inl (fun _ => 0)), .inl (cT 0, 4, .inl (fun _ => 0)), .inl (cT 1, 600, .inl (fun _ => 0)), .inr (8, [.ref (b + 72), .ref (b + 77), .ref (b + 82), .ref (b + 87), .ref (b + 92), .ref (b + 93), .int 0, .int 0, .int (-1)]), .inl (cT 4, 2, .inr (.inr (.inr (.inr (va_up (va_up (fun _ => none) 0 (some (b + 73))) 1 (some (b + 75))))))), .inr (0, [.ref (b + 74)]), .inl (cT 0, 58, .inl (upd (fun _ => 0) 2 (-1))), .inr (0, [.ref (b + 76)]), .inl (cT 0, 58, .inl (upd (fun _ => 0) 2 (-1))), .inl (cT 5, 2, .inr (.inr (.inr (.inr (va_up (va_up (fun _ => none) 0 (some (b + 78))) 1 (some (b + 80))))))), .inr (4, [.int 24, .int 3, .int 3, .ref (b + 79)]), .inl (cT 0, 97, .inl (fun _ => 0)), .inr (4, [.int 24, .int 3, .int 3, .ref (b + 81)]), .inl (cT 0, 97, .inl (fun _ => 0)), .inl (cT 6, 2, .inr (.inr (.inr (.inr (va_up (va_up (fun _ => none) 0 (some (b + 83))) 1 (some (b + 85))))))), .inr (3, [.int 8, .int 2, .int 12, .ref (b + 84)]), .inl (cT 0, 25, .inl (fun _ => 0)), .inr (3, [.int 8, .int 2, .int 12, .ref (b + 86)]), .inl (cT 0, 25, .inl (fun _ => 0)), .inl (cT 7, 2, .inr (.inr (.inr (.inr (va_up (va_up (fun _ => none) 0 (some (b + 88))) 1 (some (b + 90))))))), .inr (1, [.int 5, .int 2, .int 17, .ref (b + 89)]), .inl (cT 0, 16, .inl (fun _ => 0)), .inr (1, [.int 5, .int 2, .int 17, .ref (b + 91)]), .inl (cT 0, 16, .inl (fun _ => 0)), .inl (cT 0, 4, .inl (fun _ => 0)), .inl (cT 1, 600, .inl (fun _ => 0)), .inl (cT 2, 3, .inl (fun _ => 0)), .inl (cT 9, 4, .inr (.inr (.inr (.inr (va_up (va_up (fun _ => none) 0 (some (b + 96))) 1 (some (b + 98))))))), .inr (0, [.ref (b + 97)]), .inl (cT 0, 58, .inl (upd (fun _ => 0) 2 (-1))), .inr (4, [.int 24, .int 3, .int 3, .ref (b + 99)]), .inl (cT 0, 97, .inl (fun _ => 0)), .inr (3, [.int 0, .int 0, .int 0, .null])]) H := hP
  refine W.widen (k := 100) (n := 4330) (Nat.le_of_ble_eq_true rfl) (Nat.le_of_ble_eq_true rfl) ?_
  refine lv_dup hx hb dX11_init_90 rfl ?_
  have hPc := gb_drop hP 100 (suf := [.inr (3, [.int 0, .int 0, .int 0, .null])]) rfl rfl
  refine gb_callv (va_runI (As := []) (rest := [.ref (b + 100), .int 2, .ref (b + 95), .ref (b + 95), .ref (b + 0)]) ⟨hx, hb, hml, hown, hq⟩ (k_X3_init l D cT tt b1 (b + 100) (Nat.le_trans hb1 (Nat.le_add_right b 100))) (cwI 0 hq (gb_gI w_91) rfl rfl rfl (hq _ w_8) (hq _ w_158) (hq _ w_90) rfl (by decide +kernel) ⟨Nat.le_of_ble_eq_true rfl, Nat.le_of_ble_eq_true rfl⟩) (gb_preS hSt hS (fun q h => Nat.le_trans hb1 h) (show va_P D vwCl (gb_wl (b + 100) [.inr (3, [.int 0, .int 0, .int 0, .null])]) H ∧ Array.size H = b + 100 + 1 from ⟨hPc, hz⟩)) rfl rfl hl.1 rfl (lv_room (Nat.le_of_ble_eq_true rfl)) dX11_init_91 ⟨Nat.le_of_ble_eq_true rfl, Nat.le_of_ble_eq_true rfl⟩) hS (fun q h => Nat.le_trans (Nat.le_add_right b 100) h) (fun q h => Nat.le_trans (Nat.le_add_right b 100) h) (fun H locs hY hk hS => ?_)
  have hP := gb_glue hP 100 (pre := [.inr (9, [.ref (b + 1), .ref (b + 24), .ref (b + 94), .null, .null, .null, .null, .null, .null, .int 0]), .inr (8, [.ref (b + 2), .ref (b + 7), .ref (b + 12), .ref (b + 17), .ref (b + 22), .ref (b + 23), .int 0, .int 0, .int (-1)]), .inl (cT 4, 2, .inr (.inr (.inr (.inr (va_up (va_up (fun _ => none) 0 (some (b + 3))) 1 (some (b + 5))))))), .inr (0, [.ref (b + 4)]), .inl (cT 0, 58, .inl (upd (fun _ => 0) 2 (-1))), .inr (0, [.ref (b + 6)]), .inl (cT 0, 58, .inl (upd (fun _ => 0) 2 (-1))), .inl (cT 5, 2, .inr (.inr (.inr (.inr (va_up (va_up (fun _ => none) 0 (some (b + 8))) 1 (some (b + 10))))))), .inr (4, [.int 24, .int 3, .int 3, .ref (b + 9)]), .inl (cT 0, 97, .inl (fun _ => 0)), .inr (4, [.int 24, .int 3, .int 3, .ref (b + 11)]), .inl (cT 0, 97, .inl (fun _ => 0)), .inl (cT 6, 2, .inr (.inr (.inr (.inr (va_up (va_up (fun _ => none) 0 (some (b + 13))) 1 (some (b + 15))))))), .inr (3, [.int 8, .int 2, .int 12, .ref (b + 14)]), .inl (cT 0, 25, .inl (fun _ => 0)), .inr (3, [.int 8, .int 2, .int 12, .ref (b + 16)]), .inl (cT 0, 25, .inl (fun _ => 0)), .inl (cT 7, 2, .inr (.inr (.inr (.inr (va_up (va_up (fun _ => none) 0 (some (b + 18))) 1 (some (b + 20))))))), .inr (1, [.int 5, .int 2, .int 17, .ref (b + 19)]), .inl (cT 0, 16, .inl (fun _ => 0)), .inr (1, [.int 5, .int 2, .int 17, .ref (b + 21)]), .inl (cT 0, 16, .inl (fun _ => 0)), .inl (cT 0, 4, .inl (fun _ => 0)), .inl (cT 1, 600, .inl (fun _ => 0)), .inl (cT 8, 3, .inr (.inr (.inr (.inr (va_up (va_up (va_up (fun _ => none) 0 (some (b + 25))) 1 (some (b + 48))) 2 (some (b + 71))))))), .inr (8, [.ref (b + 26), .ref (b + 31), .ref (b + 36), .ref (b + 41), .ref (b + 46), .ref (b + 47), .int 0, .int 0, .int (-1)]), .inl (cT 4, 2, .inr (.inr (.inr (.inr (va_up (va_up (fun _ => none) 0 (some (b + 27))) 1 (some (b + 29))))))), .inr (0, [.ref (b + 28)]), .inl (cT 0, 58, .inl (upd (fun _ => 0) 2 (-1))), .inr (0, [.ref (b + 30)]), .inl (cT 0, 58, .inl (upd (fun _ => 0) 2 (-1))), .inl (cT 5, 2, .inr (.inr (.inr (.inr (va_up (va_up (fun _ => none) 0 (some (b + 32))) 1 (some (b + 34))))))), .inr (4, [.int 24, .int 3, .int 3, .ref (b + 33)]), .inl (cT 0, 97, .inl (fun _ => 0)), .inr (4, [.int 24, .int 3, .int 3, .ref (b + 35)]), .inl (cT 0, 97, .inl (fun _ => 0)), .inl (cT 6, 2, .inr (.inr (.inr (.inr (va_up (va_up (fun _ => none) 0 (some (b + 37))) 1 (some (b + 39))))))), .inr (3, [.int 8, .int 2, .int 12, .ref (b + 38)]), .inl (cT 0, 25, .inl (fun _ => 0)), .inr (3, [.int 8, .int 2, .int 12, .ref (b + 40)]), .inl (cT 0, 25, .inl (fun _ => 0)), .inl (cT 7, 2, .inr (.inr (.inr (.inr (va_up (va_up (fun _ => none) 0 (some (b + 42))) 1 (some (b + 44))))))), .inr (1, [.int 5, .int 2, .int 17, .ref (b + 43)]), .inl (cT 0, 16, .inl (fun _ => 0)), .inr (1, [.int 5, .int 2, .int 17, .ref (b + 45)]), .inl (cT 0, 16, .inl (fun _ => 0)), .inl (cT 0, 4, .inl (fun _ => 0)), .inl (cT 1, 600, .inl (fun _ => 0)), .inr (8, [.ref (b + 49), .ref (b + 54), .ref (b + 59), .ref (b + 64), .ref (b + 69), .ref (b + 70), .int 0, .int 0, .int (-1)]), .inl (cT 4, 2, .inr (.inr (.inr (.inr (va_up (va_up (fun _ => none) 0 (some (b + 50))) 1 (some (b + 52))))))), .inr (0, [.ref (b + 51)]), .inl (cT 0, 58, .inl (upd (fun _ => 0) 2 (-1))), .inr (0, [.ref (b + 53)]), .inl (cT 0, 58, .inl (upd (fun _ => 0) 2 (-1))), .inl (cT 5, 2, .inr (.inr (.inr (.inr (va_up (va_up (fun _ => none) 0 (some (b + 55))) 1 (some (b + 57))))))), .inr (4, [.int 24, .int 3, .int 3, .ref (b + 56)]), .inl (cT 0, 97, .inl (fun _ => 0)), .inr (4, [.int 24, .int 3, .int 3, .ref (b + 58)]), .inl (cT 0, 97, .inl (fun _ => 0)), .inl (cT 6, 2, .inr (.inr (.inr (.inr (va_up (va_up (fun _ => none) 0 (some (b + 60))) 1 (some (b + 62))))))), .inr (3, [.int 8, .int 2, .int 12, .ref (b + 61)]), .inl (cT 0, 25, .inl (fun _ => 0)), .inr (3, [.int 8, .int 2, .int 12, .ref (b + 63)]), .inl (cT 0, 25, .inl (fun _ => 0)), .inl (cT 7, 2, .inr (.inr (.inr (.inr (va_up (va_up (fun _ => none) 0 (some (b + 65))) 1 (some (b + 67))))))), .inr (1, [.int 5, .int 2, .int 17, .ref (b + 66)]), .inl (cT 0, 16, .inl (fun _ => 0)), .inr (1, [.int 5, .int 2, .int 17, .ref (b + 68)]), .inl (cT 0, 16, .inl (fun _ => 0)), .inl (cT 0, 4, .inl (fun _ => 0)), .inl (cT 1, 600, .inl (fun _ => 0)), .inr (8, [.ref (b + 72), .ref (b + 77), .ref (b + 82), .ref (b + 87), .ref (b + 92), .ref (b + 93), .int 0, .int 0, .int (-1)]), .inl (cT 4, 2, .inr (.inr (.inr (.inr (va_up (va_up (fun _ => none) 0 (some (b + 73))) 1 (some (b + 75))))))), .inr (0, [.ref (b + 74)]), .inl (cT 0, 58, .inl (upd (fun _ => 0) 2 (-1))), .inr (0, [.ref (b + 76)]), .inl (cT 0, 58, .inl (upd (fun _ => 0) 2 (-1))), .inl (cT 5, 2, .inr (.inr (.inr (.inr (va_up (va_up (fun _ => none) 0 (some (b + 78))) 1 (some (b + 80))))))), .inr (4, [.int 24, .int 3, .int 3, .ref (b + 79)]), .inl (cT 0, 97, .inl (fun _ => 0)), .inr (4, [.int 24, .int 3, .int 3, .ref (b + 81)]), .inl (cT 0, 97, .inl (fun _ => 0)), .inl (cT 6, 2, .inr (.inr (.inr (.inr (va_up (va_up (fun _ => none) 0 (some (b + 83))) 1 (some (b + 85))))))), .inr (3, [.int 8, .int 2, .int 12, .ref (b + 84)]), .inl (cT 0, 25, .inl (fun _ => 0)), .inr (3, [.int 8, .int 2, .int 12, .ref (b + 86)]), .inl (cT 0, 25, .inl (fun _ => 0)), .inl (cT 7, 2, .inr (.inr (.inr (.inr (va_up (va_up (fun _ => none) 0 (some (b + 88))) 1 (some (b + 90))))))), .inr (1, [.int 5, .int 2, .int 17, .ref (b + 89)]), .inl (cT 0, 16, .inl (fun _ => 0)), .inr (1, [.int 5, .int 2, .int 17, .ref (b + 91)]), .inl (cT 0, 16, .inl (fun _ => 0)), .inl (cT 0, 4, .inl (fun _ => 0)), .inl (cT 1, 600, .inl (fun _ => 0)), .inl (cT 2, 3, .inl (fun _ => 0)), .inl (cT 9, 4, .inr (.inr (.inr (.inr (va_up (va_up (fun _ => none) 0 (some (b + 96))) 1 (some (b + 98))))))), .inr (0, [.ref (b + 97)]), .inl (cT 0, 58, .inl (upd (fun _ => 0) 2 (-1))), .inr (4, [.int 24, .int 3, .int 3, .ref (b + 99)]), .inl (cT 0, 97, .inl (fun _ => 0))]) rfl rfl hk hY.1
  have hP : va_P D vwCl (gb_wl b [.inr (9, [.ref (b + 1), .ref (b + 24), .ref (b + 94), .null, .null, .null, .null, .null, .null, .int 0]), .inr (8, [.ref (b + 2), .ref (b + 7), .ref (b + 12), .ref (b + 17), .ref (b + 22), .ref (b + 23), .int 0, .int 0, .int (-1)]), .inl (cT 4, 2, .inr (.inr (.inr (.inr (va_up (va_up (fun _ => none) 0 (some (b + 3))) 1 (some (b + 5))))))), .inr (0, [.ref (b + 4)]), .inl (cT 0, 58, .inl (upd (fun _ => 0) 2 (-1))), .inr (0, [.ref (b + 6)]), .inl (cT 0, 58, .inl (upd (fun _ => 0) 2 (-1))), .inl (cT 5, 2, .inr (.inr (.inr (.inr (va_up (va_up (fun _ => none) 0 (some (b + 8))) 1 (some (b + 10))))))), .inr (4, [.int 24, .int 3, .int 3, .ref (b + 9)]), .inl (cT 0, 97, .inl (fun _ => 0)), .inr (4, [.int 24, .int 3, .int 3, .ref (b + 11)]), .inl (cT 0, 97, .inl (fun _ => 0)), .inl (cT 6, 2, .inr (.inr (.inr (.inr (va_up (va_up (fun _ => none) 0 (some (b + 13))) 1 (some (b + 15))))))), .inr (3, [.int 8, .int 2, .int 12, .ref (b + 14)]), .inl (cT 0, 25, .inl (fun _ => 0)), .inr (3, [.int 8, .int 2, .int 12, .ref (b + 16)]), .inl (cT 0, 25, .inl (fun _ => 0)), .inl (cT 7, 2, .inr (.inr (.inr (.inr (va_up (va_up (fun _ => none) 0 (some (b + 18))) 1 (some (b + 20))))))), .inr (1, [.int 5, .int 2, .int 17, .ref (b + 19)]), .inl (cT 0, 16, .inl (fun _ => 0)), .inr (1, [.int 5, .int 2, .int 17, .ref (b + 21)]), .inl (cT 0, 16, .inl (fun _ => 0)), .inl (cT 0, 4, .inl (fun _ => 0)), .inl (cT 1, 600, .inl (fun _ => 0)), .inl (cT 8, 3, .inr (.inr (.inr (.inr (va_up (va_up (va_up (fun _ => none) 0 (some (b + 25))) 1 (some (b + 48))) 2 (some (b + 71))))))), .inr (8, [.ref (b + 26), .ref (b + 31), .ref (b + 36), .ref (b + 41), .ref (b + 46), .ref (b + 47), .int 0, .int 0, .int (-1)]), .inl (cT 4, 2, .inr (.inr (.inr (.inr (va_up (va_up (fun _ => none) 0 (some (b + 27))) 1 (some (b + 29))))))), .inr (0, [.ref (b + 28)]), .inl (cT 0, 58, .inl (upd (fun _ => 0) 2 (-1))), .inr (0, [.ref (b + 30)]), .inl (cT 0, 58, .inl (upd (fun _ => 0) 2 (-1))), .inl (cT 5, 2, .inr (.inr (.inr (.inr (va_up (va_up (fun _ => none) 0 (some (b + 32))) 1 (some (b + 34))))))), .inr (4, [.int 24, .int 3, .int 3, .ref (b + 33)]), .inl (cT 0, 97, .inl (fun _ => 0)), .inr (4, [.int 24, .int 3, .int 3, .ref (b + 35)]), .inl (cT 0, 97, .inl (fun _ => 0)), .inl (cT 6, 2, .inr (.inr (.inr (.inr (va_up (va_up (fun _ => none) 0 (some (b + 37))) 1 (some (b + 39))))))), .inr (3, [.int 8, .int 2, .int 12, .ref (b + 38)]), .inl (cT 0, 25, .inl (fun _ => 0)), .inr (3, [.int 8, .int 2, .int 12, .ref (b + 40)]), .inl (cT 0, 25, .inl (fun _ => 0)), .inl (cT 7, 2, .inr (.inr (.inr (.inr (va_up (va_up (fun _ => none) 0 (some (b + 42))) 1 (some (b + 44))))))), .inr (1, [.int 5, .int 2, .int 17, .ref (b + 43)]), .inl (cT 0, 16, .inl (fun _ => 0)), .inr (1, [.int 5, .int 2, .int 17, .ref (b + 45)]), .inl (cT 0, 16, .inl (fun _ => 0)), .inl (cT 0, 4, .inl (fun _ => 0)), .inl (cT 1, 600, .inl (fun _ => 0)), .inr (8, [.ref (b + 49), .ref (b + 54), .ref (b + 59), .ref (b + 64), .ref (b + 69), .ref (b + 70), .int 0, .int 0, .int (-1)]), .inl (cT 4, 2, .inr (.inr (.inr (.inr (va_up (va_up (fun _ => none) 0 (some (b + 50))) 1 (some (b + 52))))))), .inr (0, [.ref (b + 51)]), .inl (cT 0, 58, .inl (upd (fun _ => 0) 2 (-1))), .inr (0, [.ref (b + 53)]), .inl (cT 0, 58, .inl (upd (fun _ => 0) 2 (-1))), .inl (cT 5, 2, .inr (.inr (.inr (.inr (va_up (va_up (fun _ => none) 0 (some (b + 55))) 1 (some (b + 57))))))), .inr (4, [.int 24, .int 3, .int 3, .ref (b + 56)]), .inl (cT 0, 97, .inl (fun _ => 0)), .inr (4, [.int 24, .int 3, .int 3, .ref (b + 58)]), .inl (cT 0, 97, .inl (fun _ => 0)), .inl (cT 6, 2, .inr (.inr (.inr (.inr (va_up (va_up (fun _ => none) 0 (some (b + 60))) 1 (some (b + 62))))))), .inr (3, [.int 8, .int 2, .int 12, .ref (b + 61)]), .inl (cT 0, 25, .inl (fun _ => 0)), .inr (3, [.int 8, .int 2, .int 12, .ref (b + 63)]), .inl (cT 0, 25, .inl (fun _ => 0)), .inl (cT 7, 2, .inr (.inr (.inr (.inr (va_up (va_up (fun _ => none) 0 (some (b + 65))) 1 (some (b + 67))))))), .inr (1, [.int 5, .int 2, .int 17, .ref (b + 66)]), .inl (cT 0, 16, .inl (fun _ => 0)), .inr (1, [.int 5, .int 2, .int 17, .ref (b + 68)]), .inl (cT 0, 16, .inl (fun _ => 0)), .inl (cT 0, 4, .inl (fun _ => 0)), .inl (cT 1, 600, .inl (fun _ => 0)), .inr (8, [.ref (b + 72), .ref (b + 77), .ref (b + 82), .ref (b + 87), .ref (b + 92), .ref (b + 93), .int 0, .int 0, .int (-1)]), .inl (cT 4, 2, .inr (.inr (.inr (.inr (va_up (va_up (fun _ => none) 0 (some (b + 73))) 1 (some (b + 75))))))), .inr (0, [.ref (b + 74)]), .inl (cT 0, 58, .inl (upd (fun _ => 0) 2 (-1))), .inr (0, [.ref (b + 76)]), .inl (cT 0, 58, .inl (upd (fun _ => 0) 2 (-1))), .inl (cT 5, 2, .inr (.inr (.inr (.inr (va_up (va_up (fun _ => none) 0 (some (b + 78))) 1 (some (b + 80))))))), .inr (4, [.int 24, .int 3, .int 3, .ref (b + 79)]), .inl (cT 0, 97, .inl (fun _ => 0)), .inr (4, [.int 24, .int 3, .int 3, .ref (b + 81)]), .inl (cT 0, 97, .inl (fun _ => 0)), .inl (cT 6, 2, .inr (.inr (.inr (.inr (va_up (va_up (fun _ => none) 0 (some (b + 83))) 1 (some (b + 85))))))), .inr (3, [.int 8, .int 2, .int 12, .ref (b + 84)]), .inl (cT 0, 25, .inl (fun _ => 0)), .inr (3, [.int 8, .int 2, .int 12, .ref (b + 86)]), .inl (cT 0, 25, .inl (fun _ => 0)), .inl (cT 7, 2, .inr (.inr (.inr (.inr (va_up (va_up (fun _ => none) 0 (some (b + 88))) 1 (some (b + 90))))))), .inr (1, [.int 5, .int 2, .int 17, .ref (b + 89)]), .inl (cT 0, 16, .inl (fun _ => 0)), .inr (1, [.int 5, .int 2, .int 17, .ref (b + 91)]), .inl (cT 0, 16, .inl (fun _ => 0)), .inl (cT 0, 4, .inl (fun _ => 0)), .inl (cT 1, 600, .inl (fun _ => 0)), .inl (cT 2, 3, .inl (fun _ => 0)), .inl (cT 9, 4, .inr (.inr (.inr (.inr (va_up (va_up (fun _ => none) 0 (some (b + 96))) 1 (some (b + 98))))))), .inr (0, [.ref (b + 97)]), .inl (cT 0, 58, .inl (upd (fun _ => 0) 2 (-1))), .inr (4, [.int 24, .int 3, .int 3, .ref (b + 99)]), .inl (cT 0, 97, .inl (fun _ => 0)), .inr (3, [.int 8, .int 2, .int 12, .ref (b + 101)]), .inl (cT 0, 25, .inl (fun _ => 0))]) H := hP
  have hz : Array.size H = b + 102 := hY.2
  refine W.widen (k := 101) (n := 4355) (Nat.le_of_ble_eq_true rfl) (Nat.le_of_ble_eq_true rfl) ?_
  refine gb_astq (E := "GooseBorder$Sheet") hx hb hK hP (fun k _ => Nat.le_add_right b k) hS hz 95 9 100 3 rfl rfl (Or.inr (hSt.2.1 _ gb_n1736)) rfl rfl (gb_in rfl) dX11_init_94 (fun H locs hP hz hS => ?_)
  have hP : va_P D vwCl (gb_wl b [.inr (9, [.ref (b + 1), .ref (b + 24), .ref (b + 94), .null, .null, .null, .null, .null, .null, .int 0]), .inr (8, [.ref (b + 2), .ref (b + 7), .ref (b + 12), .ref (b + 17), .ref (b + 22), .ref (b + 23), .int 0, .int 0, .int (-1)]), .inl (cT 4, 2, .inr (.inr (.inr (.inr (va_up (va_up (fun _ => none) 0 (some (b + 3))) 1 (some (b + 5))))))), .inr (0, [.ref (b + 4)]), .inl (cT 0, 58, .inl (upd (fun _ => 0) 2 (-1))), .inr (0, [.ref (b + 6)]), .inl (cT 0, 58, .inl (upd (fun _ => 0) 2 (-1))), .inl (cT 5, 2, .inr (.inr (.inr (.inr (va_up (va_up (fun _ => none) 0 (some (b + 8))) 1 (some (b + 10))))))), .inr (4, [.int 24, .int 3, .int 3, .ref (b + 9)]), .inl (cT 0, 97, .inl (fun _ => 0)), .inr (4, [.int 24, .int 3, .int 3, .ref (b + 11)]), .inl (cT 0, 97, .inl (fun _ => 0)), .inl (cT 6, 2, .inr (.inr (.inr (.inr (va_up (va_up (fun _ => none) 0 (some (b + 13))) 1 (some (b + 15))))))), .inr (3, [.int 8, .int 2, .int 12, .ref (b + 14)]), .inl (cT 0, 25, .inl (fun _ => 0)), .inr (3, [.int 8, .int 2, .int 12, .ref (b + 16)]), .inl (cT 0, 25, .inl (fun _ => 0)), .inl (cT 7, 2, .inr (.inr (.inr (.inr (va_up (va_up (fun _ => none) 0 (some (b + 18))) 1 (some (b + 20))))))), .inr (1, [.int 5, .int 2, .int 17, .ref (b + 19)]), .inl (cT 0, 16, .inl (fun _ => 0)), .inr (1, [.int 5, .int 2, .int 17, .ref (b + 21)]), .inl (cT 0, 16, .inl (fun _ => 0)), .inl (cT 0, 4, .inl (fun _ => 0)), .inl (cT 1, 600, .inl (fun _ => 0)), .inl (cT 8, 3, .inr (.inr (.inr (.inr (va_up (va_up (va_up (fun _ => none) 0 (some (b + 25))) 1 (some (b + 48))) 2 (some (b + 71))))))), .inr (8, [.ref (b + 26), .ref (b + 31), .ref (b + 36), .ref (b + 41), .ref (b + 46), .ref (b + 47), .int 0, .int 0, .int (-1)]), .inl (cT 4, 2, .inr (.inr (.inr (.inr (va_up (va_up (fun _ => none) 0 (some (b + 27))) 1 (some (b + 29))))))), .inr (0, [.ref (b + 28)]), .inl (cT 0, 58, .inl (upd (fun _ => 0) 2 (-1))), .inr (0, [.ref (b + 30)]), .inl (cT 0, 58, .inl (upd (fun _ => 0) 2 (-1))), .inl (cT 5, 2, .inr (.inr (.inr (.inr (va_up (va_up (fun _ => none) 0 (some (b + 32))) 1 (some (b + 34))))))), .inr (4, [.int 24, .int 3, .int 3, .ref (b + 33)]), .inl (cT 0, 97, .inl (fun _ => 0)), .inr (4, [.int 24, .int 3, .int 3, .ref (b + 35)]), .inl (cT 0, 97, .inl (fun _ => 0)), .inl (cT 6, 2, .inr (.inr (.inr (.inr (va_up (va_up (fun _ => none) 0 (some (b + 37))) 1 (some (b + 39))))))), .inr (3, [.int 8, .int 2, .int 12, .ref (b + 38)]), .inl (cT 0, 25, .inl (fun _ => 0)), .inr (3, [.int 8, .int 2, .int 12, .ref (b + 40)]), .inl (cT 0, 25, .inl (fun _ => 0)), .inl (cT 7, 2, .inr (.inr (.inr (.inr (va_up (va_up (fun _ => none) 0 (some (b + 42))) 1 (some (b + 44))))))), .inr (1, [.int 5, .int 2, .int 17, .ref (b + 43)]), .inl (cT 0, 16, .inl (fun _ => 0)), .inr (1, [.int 5, .int 2, .int 17, .ref (b + 45)]), .inl (cT 0, 16, .inl (fun _ => 0)), .inl (cT 0, 4, .inl (fun _ => 0)), .inl (cT 1, 600, .inl (fun _ => 0)), .inr (8, [.ref (b + 49), .ref (b + 54), .ref (b + 59), .ref (b + 64), .ref (b + 69), .ref (b + 70), .int 0, .int 0, .int (-1)]), .inl (cT 4, 2, .inr (.inr (.inr (.inr (va_up (va_up (fun _ => none) 0 (some (b + 50))) 1 (some (b + 52))))))), .inr (0, [.ref (b + 51)]), .inl (cT 0, 58, .inl (upd (fun _ => 0) 2 (-1))), .inr (0, [.ref (b + 53)]), .inl (cT 0, 58, .inl (upd (fun _ => 0) 2 (-1))), .inl (cT 5, 2, .inr (.inr (.inr (.inr (va_up (va_up (fun _ => none) 0 (some (b + 55))) 1 (some (b + 57))))))), .inr (4, [.int 24, .int 3, .int 3, .ref (b + 56)]), .inl (cT 0, 97, .inl (fun _ => 0)), .inr (4, [.int 24, .int 3, .int 3, .ref (b + 58)]), .inl (cT 0, 97, .inl (fun _ => 0)), .inl (cT 6, 2, .inr (.inr (.inr (.inr (va_up (va_up (fun _ => none) 0 (some (b + 60))) 1 (some (b + 62))))))), .inr (3, [.int 8, .int 2, .int 12, .ref (b + 61)]), .inl (cT 0, 25, .inl (fun _ => 0)), .inr (3, [.int 8, .int 2, .int 12, .ref (b + 63)]), .inl (cT 0, 25, .inl (fun _ => 0)), .inl (cT 7, 2, .inr (.inr (.inr (.inr (va_up (va_up (fun _ => none) 0 (some (b + 65))) 1 (some (b + 67))))))), .inr (1, [.int 5, .int 2, .int 17, .ref (b + 66)]), .inl (cT 0, 16, .inl (fun _ => 0)), .inr (1, [.int 5, .int 2, .int 17, .ref (b + 68)]), .inl (cT 0, 16, .inl (fun _ => 0)), .inl (cT 0, 4, .inl (fun _ => 0)), .inl (cT 1, 600, .inl (fun _ => 0)), .inr (8, [.ref (b + 72), .ref (b + 77), .ref (b + 82), .ref (b + 87), .ref (b + 92), .ref (b + 93), .int 0, .int 0, .int (-1)]), .inl (cT 4, 2, .inr (.inr (.inr (.inr (va_up (va_up (fun _ => none) 0 (some (b + 73))) 1 (some (b + 75))))))), .inr (0, [.ref (b + 74)]), .inl (cT 0, 58, .inl (upd (fun _ => 0) 2 (-1))), .inr (0, [.ref (b + 76)]), .inl (cT 0, 58, .inl (upd (fun _ => 0) 2 (-1))), .inl (cT 5, 2, .inr (.inr (.inr (.inr (va_up (va_up (fun _ => none) 0 (some (b + 78))) 1 (some (b + 80))))))), .inr (4, [.int 24, .int 3, .int 3, .ref (b + 79)]), .inl (cT 0, 97, .inl (fun _ => 0)), .inr (4, [.int 24, .int 3, .int 3, .ref (b + 81)]), .inl (cT 0, 97, .inl (fun _ => 0)), .inl (cT 6, 2, .inr (.inr (.inr (.inr (va_up (va_up (fun _ => none) 0 (some (b + 83))) 1 (some (b + 85))))))), .inr (3, [.int 8, .int 2, .int 12, .ref (b + 84)]), .inl (cT 0, 25, .inl (fun _ => 0)), .inr (3, [.int 8, .int 2, .int 12, .ref (b + 86)]), .inl (cT 0, 25, .inl (fun _ => 0)), .inl (cT 7, 2, .inr (.inr (.inr (.inr (va_up (va_up (fun _ => none) 0 (some (b + 88))) 1 (some (b + 90))))))), .inr (1, [.int 5, .int 2, .int 17, .ref (b + 89)]), .inl (cT 0, 16, .inl (fun _ => 0)), .inr (1, [.int 5, .int 2, .int 17, .ref (b + 91)]), .inl (cT 0, 16, .inl (fun _ => 0)), .inl (cT 0, 4, .inl (fun _ => 0)), .inl (cT 1, 600, .inl (fun _ => 0)), .inl (cT 2, 3, .inl (fun _ => 0)), .inl (cT 9, 4, .inr (.inr (.inr (.inr (va_up (va_up (va_up (fun _ => none) 0 (some (b + 96))) 1 (some (b + 98))) 2 (some (b + 100))))))), .inr (0, [.ref (b + 97)]), .inl (cT 0, 58, .inl (upd (fun _ => 0) 2 (-1))), .inr (4, [.int 24, .int 3, .int 3, .ref (b + 99)]), .inl (cT 0, 97, .inl (fun _ => 0)), .inr (3, [.int 8, .int 2, .int 12, .ref (b + 101)]), .inl (cT 0, 25, .inl (fun _ => 0))]) H := hP
  refine lv_dup hx hb dX11_init_95 rfl ?_
  refine lv_iconst (v := 3) hx hb dX11_init_96 (by decide) ?_
  refine gb_new (ci := 1) (fs := [.int 0, .int 0, .int 0, .null]) (C := RX1) (T := TX1) (N := 4) hx hb hq i_X1 tyX1 tyX1_ok hown (hq _ w_159) (hq _ w_101) (hq _ w_9) hK hP hS 102 hz rfl rfl (fun j hj => by rcases (show j = 0 ∨ j = 1 ∨ j = 2 ∨ j = 3 by omega) with rfl | rfl | rfl | rfl <;> rfl) (Nat.le_of_ble_eq_true rfl) (Nat.le_of_ble_eq_true rfl) dX11_init_97 (fun H hP hz hS => ?_)
  have hP : va_P D vwCl (gb_wl b [.inr (9, [.ref (b + 1), .ref (b + 24), .ref (b + 94), .null, .null, .null, .null, .null, .null, .int 0]), .inr (8, [.ref (b + 2), .ref (b + 7), .ref (b + 12), .ref (b + 17), .ref (b + 22), .ref (b + 23), .int 0, .int 0, .int (-1)]), .inl (cT 4, 2, .inr (.inr (.inr (.inr (va_up (va_up (fun _ => none) 0 (some (b + 3))) 1 (some (b + 5))))))), .inr (0, [.ref (b + 4)]), .inl (cT 0, 58, .inl (upd (fun _ => 0) 2 (-1))), .inr (0, [.ref (b + 6)]), .inl (cT 0, 58, .inl (upd (fun _ => 0) 2 (-1))), .inl (cT 5, 2, .inr (.inr (.inr (.inr (va_up (va_up (fun _ => none) 0 (some (b + 8))) 1 (some (b + 10))))))), .inr (4, [.int 24, .int 3, .int 3, .ref (b + 9)]), .inl (cT 0, 97, .inl (fun _ => 0)), .inr (4, [.int 24, .int 3, .int 3, .ref (b + 11)]), .inl (cT 0, 97, .inl (fun _ => 0)), .inl (cT 6, 2, .inr (.inr (.inr (.inr (va_up (va_up (fun _ => none) 0 (some (b + 13))) 1 (some (b + 15))))))), .inr (3, [.int 8, .int 2, .int 12, .ref (b + 14)]), .inl (cT 0, 25, .inl (fun _ => 0)), .inr (3, [.int 8, .int 2, .int 12, .ref (b + 16)]), .inl (cT 0, 25, .inl (fun _ => 0)), .inl (cT 7, 2, .inr (.inr (.inr (.inr (va_up (va_up (fun _ => none) 0 (some (b + 18))) 1 (some (b + 20))))))), .inr (1, [.int 5, .int 2, .int 17, .ref (b + 19)]), .inl (cT 0, 16, .inl (fun _ => 0)), .inr (1, [.int 5, .int 2, .int 17, .ref (b + 21)]), .inl (cT 0, 16, .inl (fun _ => 0)), .inl (cT 0, 4, .inl (fun _ => 0)), .inl (cT 1, 600, .inl (fun _ => 0)), .inl (cT 8, 3, .inr (.inr (.inr (.inr (va_up (va_up (va_up (fun _ => none) 0 (some (b + 25))) 1 (some (b + 48))) 2 (some (b + 71))))))), .inr (8, [.ref (b + 26), .ref (b + 31), .ref (b + 36), .ref (b + 41), .ref (b + 46), .ref (b + 47), .int 0, .int 0, .int (-1)]), .inl (cT 4, 2, .inr (.inr (.inr (.inr (va_up (va_up (fun _ => none) 0 (some (b + 27))) 1 (some (b + 29))))))), .inr (0, [.ref (b + 28)]), .inl (cT 0, 58, .inl (upd (fun _ => 0) 2 (-1))), .inr (0, [.ref (b + 30)]), .inl (cT 0, 58, .inl (upd (fun _ => 0) 2 (-1))), .inl (cT 5, 2, .inr (.inr (.inr (.inr (va_up (va_up (fun _ => none) 0 (some (b + 32))) 1 (some (b + 34))))))), .inr (4, [.int 24, .int 3, .int 3, .ref (b + 33)]), .inl (cT 0, 97, .inl (fun _ => 0)), .inr (4, [.int 24, .int 3, .int 3, .ref (b + 35)]), .inl (cT 0, 97, .inl (fun _ => 0)), .inl (cT 6, 2, .inr (.inr (.inr (.inr (va_up (va_up (fun _ => none) 0 (some (b + 37))) 1 (some (b + 39))))))), .inr (3, [.int 8, .int 2, .int 12, .ref (b + 38)]), .inl (cT 0, 25, .inl (fun _ => 0)), .inr (3, [.int 8, .int 2, .int 12, .ref (b + 40)]), .inl (cT 0, 25, .inl (fun _ => 0)), .inl (cT 7, 2, .inr (.inr (.inr (.inr (va_up (va_up (fun _ => none) 0 (some (b + 42))) 1 (some (b + 44))))))), .inr (1, [.int 5, .int 2, .int 17, .ref (b + 43)]), .inl (cT 0, 16, .inl (fun _ => 0)), .inr (1, [.int 5, .int 2, .int 17, .ref (b + 45)]), .inl (cT 0, 16, .inl (fun _ => 0)), .inl (cT 0, 4, .inl (fun _ => 0)), .inl (cT 1, 600, .inl (fun _ => 0)), .inr (8, [.ref (b + 49), .ref (b + 54), .ref (b + 59), .ref (b + 64), .ref (b + 69), .ref (b + 70), .int 0, .int 0, .int (-1)]), .inl (cT 4, 2, .inr (.inr (.inr (.inr (va_up (va_up (fun _ => none) 0 (some (b + 50))) 1 (some (b + 52))))))), .inr (0, [.ref (b + 51)]), .inl (cT 0, 58, .inl (upd (fun _ => 0) 2 (-1))), .inr (0, [.ref (b + 53)]), .inl (cT 0, 58, .inl (upd (fun _ => 0) 2 (-1))), .inl (cT 5, 2, .inr (.inr (.inr (.inr (va_up (va_up (fun _ => none) 0 (some (b + 55))) 1 (some (b + 57))))))), .inr (4, [.int 24, .int 3, .int 3, .ref (b + 56)]), .inl (cT 0, 97, .inl (fun _ => 0)), .inr (4, [.int 24, .int 3, .int 3, .ref (b + 58)]), .inl (cT 0, 97, .inl (fun _ => 0)), .inl (cT 6, 2, .inr (.inr (.inr (.inr (va_up (va_up (fun _ => none) 0 (some (b + 60))) 1 (some (b + 62))))))), .inr (3, [.int 8, .int 2, .int 12, .ref (b + 61)]), .inl (cT 0, 25, .inl (fun _ => 0)), .inr (3, [.int 8, .int 2, .int 12, .ref (b + 63)]), .inl (cT 0, 25, .inl (fun _ => 0)), .inl (cT 7, 2, .inr (.inr (.inr (.inr (va_up (va_up (fun _ => none) 0 (some (b + 65))) 1 (some (b + 67))))))), .inr (1, [.int 5, .int 2, .int 17, .ref (b + 66)]), .inl (cT 0, 16, .inl (fun _ => 0)), .inr (1, [.int 5, .int 2, .int 17, .ref (b + 68)]), .inl (cT 0, 16, .inl (fun _ => 0)), .inl (cT 0, 4, .inl (fun _ => 0)), .inl (cT 1, 600, .inl (fun _ => 0)), .inr (8, [.ref (b + 72), .ref (b + 77), .ref (b + 82), .ref (b + 87), .ref (b + 92), .ref (b + 93), .int 0, .int 0, .int (-1)]), .inl (cT 4, 2, .inr (.inr (.inr (.inr (va_up (va_up (fun _ => none) 0 (some (b + 73))) 1 (some (b + 75))))))), .inr (0, [.ref (b + 74)]), .inl (cT 0, 58, .inl (upd (fun _ => 0) 2 (-1))), .inr (0, [.ref (b + 76)]), .inl (cT 0, 58, .inl (upd (fun _ => 0) 2 (-1))), .inl (cT 5, 2, .inr (.inr (.inr (.inr (va_up (va_up (fun _ => none) 0 (some (b + 78))) 1 (some (b + 80))))))), .inr (4, [.int 24, .int 3, .int 3, .ref (b + 79)]), .inl (cT 0, 97, .inl (fun _ => 0)), .inr (4, [.int 24, .int 3, .int 3, .ref (b + 81)]), .inl (cT 0, 97, .inl (fun _ => 0)), .inl (cT 6, 2, .inr (.inr (.inr (.inr (va_up (va_up (fun _ => none) 0 (some (b + 83))) 1 (some (b + 85))))))), .inr (3, [.int 8, .int 2, .int 12, .ref (b + 84)]), .inl (cT 0, 25, .inl (fun _ => 0)), .inr (3, [.int 8, .int 2, .int 12, .ref (b + 86)]), .inl (cT 0, 25, .inl (fun _ => 0)), .inl (cT 7, 2, .inr (.inr (.inr (.inr (va_up (va_up (fun _ => none) 0 (some (b + 88))) 1 (some (b + 90))))))), .inr (1, [.int 5, .int 2, .int 17, .ref (b + 89)]), .inl (cT 0, 16, .inl (fun _ => 0)), .inr (1, [.int 5, .int 2, .int 17, .ref (b + 91)]), .inl (cT 0, 16, .inl (fun _ => 0)), .inl (cT 0, 4, .inl (fun _ => 0)), .inl (cT 1, 600, .inl (fun _ => 0)), .inl (cT 2, 3, .inl (fun _ => 0)), .inl (cT 9, 4, .inr (.inr (.inr (.inr (va_up (va_up (va_up (fun _ => none) 0 (some (b + 96))) 1 (some (b + 98))) 2 (some (b + 100))))))), .inr (0, [.ref (b + 97)]), .inl (cT 0, 58, .inl (upd (fun _ => 0) 2 (-1))), .inr (4, [.int 24, .int 3, .int 3, .ref (b + 99)]), .inl (cT 0, 97, .inl (fun _ => 0)), .inr (3, [.int 8, .int 2, .int 12, .ref (b + 101)]), .inl (cT 0, 25, .inl (fun _ => 0)), .inr (1, [.int 0, .int 0, .int 0, .null])]) H := hP
  refine W.widen (k := 102) (n := 4359) (Nat.le_of_ble_eq_true rfl) (Nat.le_of_ble_eq_true rfl) ?_
  refine lv_dup hx hb dX11_init_100 rfl ?_
  have hPc := gb_drop hP 102 (suf := [.inr (1, [.int 0, .int 0, .int 0, .null])]) rfl rfl
  refine gb_callv (va_runI (As := []) (rest := [.ref (b + 102), .int 3, .ref (b + 95), .ref (b + 95), .ref (b + 0)]) ⟨hx, hb, hml, hown, hq⟩ (k_X1_init l D cT tt b1 (b + 102) (Nat.le_trans hb1 (Nat.le_add_right b 102))) (cwI 0 hq (gb_gI w_104) rfl rfl rfl (hq _ w_9) (hq _ w_160) (hq _ w_103) rfl (by decide +kernel) ⟨Nat.le_of_ble_eq_true rfl, Nat.le_of_ble_eq_true rfl⟩) (gb_preS hSt hS (fun q h => Nat.le_trans hb1 h) (show va_P D vwCl (gb_wl (b + 102) [.inr (1, [.int 0, .int 0, .int 0, .null])]) H ∧ Array.size H = b + 102 + 1 from ⟨hPc, hz⟩)) rfl rfl hl.1 rfl (lv_room (Nat.le_of_ble_eq_true rfl)) dX11_init_101 ⟨Nat.le_of_ble_eq_true rfl, Nat.le_of_ble_eq_true rfl⟩) hS (fun q h => Nat.le_trans (Nat.le_add_right b 102) h) (fun q h => Nat.le_trans (Nat.le_add_right b 102) h) (fun H locs hY hk hS => ?_)
  have hP := gb_glue hP 102 (pre := [.inr (9, [.ref (b + 1), .ref (b + 24), .ref (b + 94), .null, .null, .null, .null, .null, .null, .int 0]), .inr (8, [.ref (b + 2), .ref (b + 7), .ref (b + 12), .ref (b + 17), .ref (b + 22), .ref (b + 23), .int 0, .int 0, .int (-1)]), .inl (cT 4, 2, .inr (.inr (.inr (.inr (va_up (va_up (fun _ => none) 0 (some (b + 3))) 1 (some (b + 5))))))), .inr (0, [.ref (b + 4)]), .inl (cT 0, 58, .inl (upd (fun _ => 0) 2 (-1))), .inr (0, [.ref (b + 6)]), .inl (cT 0, 58, .inl (upd (fun _ => 0) 2 (-1))), .inl (cT 5, 2, .inr (.inr (.inr (.inr (va_up (va_up (fun _ => none) 0 (some (b + 8))) 1 (some (b + 10))))))), .inr (4, [.int 24, .int 3, .int 3, .ref (b + 9)]), .inl (cT 0, 97, .inl (fun _ => 0)), .inr (4, [.int 24, .int 3, .int 3, .ref (b + 11)]), .inl (cT 0, 97, .inl (fun _ => 0)), .inl (cT 6, 2, .inr (.inr (.inr (.inr (va_up (va_up (fun _ => none) 0 (some (b + 13))) 1 (some (b + 15))))))), .inr (3, [.int 8, .int 2, .int 12, .ref (b + 14)]), .inl (cT 0, 25, .inl (fun _ => 0)), .inr (3, [.int 8, .int 2, .int 12, .ref (b + 16)]), .inl (cT 0, 25, .inl (fun _ => 0)), .inl (cT 7, 2, .inr (.inr (.inr (.inr (va_up (va_up (fun _ => none) 0 (some (b + 18))) 1 (some (b + 20))))))), .inr (1, [.int 5, .int 2, .int 17, .ref (b + 19)]), .inl (cT 0, 16, .inl (fun _ => 0)), .inr (1, [.int 5, .int 2, .int 17, .ref (b + 21)]), .inl (cT 0, 16, .inl (fun _ => 0)), .inl (cT 0, 4, .inl (fun _ => 0)), .inl (cT 1, 600, .inl (fun _ => 0)), .inl (cT 8, 3, .inr (.inr (.inr (.inr (va_up (va_up (va_up (fun _ => none) 0 (some (b + 25))) 1 (some (b + 48))) 2 (some (b + 71))))))), .inr (8, [.ref (b + 26), .ref (b + 31), .ref (b + 36), .ref (b + 41), .ref (b + 46), .ref (b + 47), .int 0, .int 0, .int (-1)]), .inl (cT 4, 2, .inr (.inr (.inr (.inr (va_up (va_up (fun _ => none) 0 (some (b + 27))) 1 (some (b + 29))))))), .inr (0, [.ref (b + 28)]), .inl (cT 0, 58, .inl (upd (fun _ => 0) 2 (-1))), .inr (0, [.ref (b + 30)]), .inl (cT 0, 58, .inl (upd (fun _ => 0) 2 (-1))), .inl (cT 5, 2, .inr (.inr (.inr (.inr (va_up (va_up (fun _ => none) 0 (some (b + 32))) 1 (some (b + 34))))))), .inr (4, [.int 24, .int 3, .int 3, .ref (b + 33)]), .inl (cT 0, 97, .inl (fun _ => 0)), .inr (4, [.int 24, .int 3, .int 3, .ref (b + 35)]), .inl (cT 0, 97, .inl (fun _ => 0)), .inl (cT 6, 2, .inr (.inr (.inr (.inr (va_up (va_up (fun _ => none) 0 (some (b + 37))) 1 (some (b + 39))))))), .inr (3, [.int 8, .int 2, .int 12, .ref (b + 38)]), .inl (cT 0, 25, .inl (fun _ => 0)), .inr (3, [.int 8, .int 2, .int 12, .ref (b + 40)]), .inl (cT 0, 25, .inl (fun _ => 0)), .inl (cT 7, 2, .inr (.inr (.inr (.inr (va_up (va_up (fun _ => none) 0 (some (b + 42))) 1 (some (b + 44))))))), .inr (1, [.int 5, .int 2, .int 17, .ref (b + 43)]), .inl (cT 0, 16, .inl (fun _ => 0)), .inr (1, [.int 5, .int 2, .int 17, .ref (b + 45)]), .inl (cT 0, 16, .inl (fun _ => 0)), .inl (cT 0, 4, .inl (fun _ => 0)), .inl (cT 1, 600, .inl (fun _ => 0)), .inr (8, [.ref (b + 49), .ref (b + 54), .ref (b + 59), .ref (b + 64), .ref (b + 69), .ref (b + 70), .int 0, .int 0, .int (-1)]), .inl (cT 4, 2, .inr (.inr (.inr (.inr (va_up (va_up (fun _ => none) 0 (some (b + 50))) 1 (some (b + 52))))))), .inr (0, [.ref (b + 51)]), .inl (cT 0, 58, .inl (upd (fun _ => 0) 2 (-1))), .inr (0, [.ref (b + 53)]), .inl (cT 0, 58, .inl (upd (fun _ => 0) 2 (-1))), .inl (cT 5, 2, .inr (.inr (.inr (.inr (va_up (va_up (fun _ => none) 0 (some (b + 55))) 1 (some (b + 57))))))), .inr (4, [.int 24, .int 3, .int 3, .ref (b + 56)]), .inl (cT 0, 97, .inl (fun _ => 0)), .inr (4, [.int 24, .int 3, .int 3, .ref (b + 58)]), .inl (cT 0, 97, .inl (fun _ => 0)), .inl (cT 6, 2, .inr (.inr (.inr (.inr (va_up (va_up (fun _ => none) 0 (some (b + 60))) 1 (some (b + 62))))))), .inr (3, [.int 8, .int 2, .int 12, .ref (b + 61)]), .inl (cT 0, 25, .inl (fun _ => 0)), .inr (3, [.int 8, .int 2, .int 12, .ref (b + 63)]), .inl (cT 0, 25, .inl (fun _ => 0)), .inl (cT 7, 2, .inr (.inr (.inr (.inr (va_up (va_up (fun _ => none) 0 (some (b + 65))) 1 (some (b + 67))))))), .inr (1, [.int 5, .int 2, .int 17, .ref (b + 66)]), .inl (cT 0, 16, .inl (fun _ => 0)), .inr (1, [.int 5, .int 2, .int 17, .ref (b + 68)]), .inl (cT 0, 16, .inl (fun _ => 0)), .inl (cT 0, 4, .inl (fun _ => 0)), .inl (cT 1, 600, .inl (fun _ => 0)), .inr (8, [.ref (b + 72), .ref (b + 77), .ref (b + 82), .ref (b + 87), .ref (b + 92), .ref (b + 93), .int 0, .int 0, .int (-1)]), .inl (cT 4, 2, .inr (.inr (.inr (.inr (va_up (va_up (fun _ => none) 0 (some (b + 73))) 1 (some (b + 75))))))), .inr (0, [.ref (b + 74)]), .inl (cT 0, 58, .inl (upd (fun _ => 0) 2 (-1))), .inr (0, [.ref (b + 76)]), .inl (cT 0, 58, .inl (upd (fun _ => 0) 2 (-1))), .inl (cT 5, 2, .inr (.inr (.inr (.inr (va_up (va_up (fun _ => none) 0 (some (b + 78))) 1 (some (b + 80))))))), .inr (4, [.int 24, .int 3, .int 3, .ref (b + 79)]), .inl (cT 0, 97, .inl (fun _ => 0)), .inr (4, [.int 24, .int 3, .int 3, .ref (b + 81)]), .inl (cT 0, 97, .inl (fun _ => 0)), .inl (cT 6, 2, .inr (.inr (.inr (.inr (va_up (va_up (fun _ => none) 0 (some (b + 83))) 1 (some (b + 85))))))), .inr (3, [.int 8, .int 2, .int 12, .ref (b + 84)]), .inl (cT 0, 25, .inl (fun _ => 0)), .inr (3, [.int 8, .int 2, .int 12, .ref (b + 86)]), .inl (cT 0, 25, .inl (fun _ => 0)), .inl (cT 7, 2, .inr (.inr (.inr (.inr (va_up (va_up (fun _ => none) 0 (some (b + 88))) 1 (some (b + 90))))))), .inr (1, [.int 5, .int 2, .int 17, .ref (b + 89)]), .inl (cT 0, 16, .inl (fun _ => 0)), .inr (1, [.int 5, .int 2, .int 17, .ref (b + 91)]), .inl (cT 0, 16, .inl (fun _ => 0)), .inl (cT 0, 4, .inl (fun _ => 0)), .inl (cT 1, 600, .inl (fun _ => 0)), .inl (cT 2, 3, .inl (fun _ => 0)), .inl (cT 9, 4, .inr (.inr (.inr (.inr (va_up (va_up (va_up (fun _ => none) 0 (some (b + 96))) 1 (some (b + 98))) 2 (some (b + 100))))))), .inr (0, [.ref (b + 97)]), .inl (cT 0, 58, .inl (upd (fun _ => 0) 2 (-1))), .inr (4, [.int 24, .int 3, .int 3, .ref (b + 99)]), .inl (cT 0, 97, .inl (fun _ => 0)), .inr (3, [.int 8, .int 2, .int 12, .ref (b + 101)]), .inl (cT 0, 25, .inl (fun _ => 0))]) rfl rfl hk hY.1
  have hP : va_P D vwCl (gb_wl b [.inr (9, [.ref (b + 1), .ref (b + 24), .ref (b + 94), .null, .null, .null, .null, .null, .null, .int 0]), .inr (8, [.ref (b + 2), .ref (b + 7), .ref (b + 12), .ref (b + 17), .ref (b + 22), .ref (b + 23), .int 0, .int 0, .int (-1)]), .inl (cT 4, 2, .inr (.inr (.inr (.inr (va_up (va_up (fun _ => none) 0 (some (b + 3))) 1 (some (b + 5))))))), .inr (0, [.ref (b + 4)]), .inl (cT 0, 58, .inl (upd (fun _ => 0) 2 (-1))), .inr (0, [.ref (b + 6)]), .inl (cT 0, 58, .inl (upd (fun _ => 0) 2 (-1))), .inl (cT 5, 2, .inr (.inr (.inr (.inr (va_up (va_up (fun _ => none) 0 (some (b + 8))) 1 (some (b + 10))))))), .inr (4, [.int 24, .int 3, .int 3, .ref (b + 9)]), .inl (cT 0, 97, .inl (fun _ => 0)), .inr (4, [.int 24, .int 3, .int 3, .ref (b + 11)]), .inl (cT 0, 97, .inl (fun _ => 0)), .inl (cT 6, 2, .inr (.inr (.inr (.inr (va_up (va_up (fun _ => none) 0 (some (b + 13))) 1 (some (b + 15))))))), .inr (3, [.int 8, .int 2, .int 12, .ref (b + 14)]), .inl (cT 0, 25, .inl (fun _ => 0)), .inr (3, [.int 8, .int 2, .int 12, .ref (b + 16)]), .inl (cT 0, 25, .inl (fun _ => 0)), .inl (cT 7, 2, .inr (.inr (.inr (.inr (va_up (va_up (fun _ => none) 0 (some (b + 18))) 1 (some (b + 20))))))), .inr (1, [.int 5, .int 2, .int 17, .ref (b + 19)]), .inl (cT 0, 16, .inl (fun _ => 0)), .inr (1, [.int 5, .int 2, .int 17, .ref (b + 21)]), .inl (cT 0, 16, .inl (fun _ => 0)), .inl (cT 0, 4, .inl (fun _ => 0)), .inl (cT 1, 600, .inl (fun _ => 0)), .inl (cT 8, 3, .inr (.inr (.inr (.inr (va_up (va_up (va_up (fun _ => none) 0 (some (b + 25))) 1 (some (b + 48))) 2 (some (b + 71))))))), .inr (8, [.ref (b + 26), .ref (b + 31), .ref (b + 36), .ref (b + 41), .ref (b + 46), .ref (b + 47), .int 0, .int 0, .int (-1)]), .inl (cT 4, 2, .inr (.inr (.inr (.inr (va_up (va_up (fun _ => none) 0 (some (b + 27))) 1 (some (b + 29))))))), .inr (0, [.ref (b + 28)]), .inl (cT 0, 58, .inl (upd (fun _ => 0) 2 (-1))), .inr (0, [.ref (b + 30)]), .inl (cT 0, 58, .inl (upd (fun _ => 0) 2 (-1))), .inl (cT 5, 2, .inr (.inr (.inr (.inr (va_up (va_up (fun _ => none) 0 (some (b + 32))) 1 (some (b + 34))))))), .inr (4, [.int 24, .int 3, .int 3, .ref (b + 33)]), .inl (cT 0, 97, .inl (fun _ => 0)), .inr (4, [.int 24, .int 3, .int 3, .ref (b + 35)]), .inl (cT 0, 97, .inl (fun _ => 0)), .inl (cT 6, 2, .inr (.inr (.inr (.inr (va_up (va_up (fun _ => none) 0 (some (b + 37))) 1 (some (b + 39))))))), .inr (3, [.int 8, .int 2, .int 12, .ref (b + 38)]), .inl (cT 0, 25, .inl (fun _ => 0)), .inr (3, [.int 8, .int 2, .int 12, .ref (b + 40)]), .inl (cT 0, 25, .inl (fun _ => 0)), .inl (cT 7, 2, .inr (.inr (.inr (.inr (va_up (va_up (fun _ => none) 0 (some (b + 42))) 1 (some (b + 44))))))), .inr (1, [.int 5, .int 2, .int 17, .ref (b + 43)]), .inl (cT 0, 16, .inl (fun _ => 0)), .inr (1, [.int 5, .int 2, .int 17, .ref (b + 45)]), .inl (cT 0, 16, .inl (fun _ => 0)), .inl (cT 0, 4, .inl (fun _ => 0)), .inl (cT 1, 600, .inl (fun _ => 0)), .inr (8, [.ref (b + 49), .ref (b + 54), .ref (b + 59), .ref (b + 64), .ref (b + 69), .ref (b + 70), .int 0, .int 0, .int (-1)]), .inl (cT 4, 2, .inr (.inr (.inr (.inr (va_up (va_up (fun _ => none) 0 (some (b + 50))) 1 (some (b + 52))))))), .inr (0, [.ref (b + 51)]), .inl (cT 0, 58, .inl (upd (fun _ => 0) 2 (-1))), .inr (0, [.ref (b + 53)]), .inl (cT 0, 58, .inl (upd (fun _ => 0) 2 (-1))), .inl (cT 5, 2, .inr (.inr (.inr (.inr (va_up (va_up (fun _ => none) 0 (some (b + 55))) 1 (some (b + 57))))))), .inr (4, [.int 24, .int 3, .int 3, .ref (b + 56)]), .inl (cT 0, 97, .inl (fun _ => 0)), .inr (4, [.int 24, .int 3, .int 3, .ref (b + 58)]), .inl (cT 0, 97, .inl (fun _ => 0)), .inl (cT 6, 2, .inr (.inr (.inr (.inr (va_up (va_up (fun _ => none) 0 (some (b + 60))) 1 (some (b + 62))))))), .inr (3, [.int 8, .int 2, .int 12, .ref (b + 61)]), .inl (cT 0, 25, .inl (fun _ => 0)), .inr (3, [.int 8, .int 2, .int 12, .ref (b + 63)]), .inl (cT 0, 25, .inl (fun _ => 0)), .inl (cT 7, 2, .inr (.inr (.inr (.inr (va_up (va_up (fun _ => none) 0 (some (b + 65))) 1 (some (b + 67))))))), .inr (1, [.int 5, .int 2, .int 17, .ref (b + 66)]), .inl (cT 0, 16, .inl (fun _ => 0)), .inr (1, [.int 5, .int 2, .int 17, .ref (b + 68)]), .inl (cT 0, 16, .inl (fun _ => 0)), .inl (cT 0, 4, .inl (fun _ => 0)), .inl (cT 1, 600, .inl (fun _ => 0)), .inr (8, [.ref (b + 72), .ref (b + 77), .ref (b + 82), .ref (b + 87), .ref (b + 92), .ref (b + 93), .int 0, .int 0, .int (-1)]), .inl (cT 4, 2, .inr (.inr (.inr (.inr (va_up (va_up (fun _ => none) 0 (some (b + 73))) 1 (some (b + 75))))))), .inr (0, [.ref (b + 74)]), .inl (cT 0, 58, .inl (upd (fun _ => 0) 2 (-1))), .inr (0, [.ref (b + 76)]), .inl (cT 0, 58, .inl (upd (fun _ => 0) 2 (-1))), .inl (cT 5, 2, .inr (.inr (.inr (.inr (va_up (va_up (fun _ => none) 0 (some (b + 78))) 1 (some (b + 80))))))), .inr (4, [.int 24, .int 3, .int 3, .ref (b + 79)]), .inl (cT 0, 97, .inl (fun _ => 0)), .inr (4, [.int 24, .int 3, .int 3, .ref (b + 81)]), .inl (cT 0, 97, .inl (fun _ => 0)), .inl (cT 6, 2, .inr (.inr (.inr (.inr (va_up (va_up (fun _ => none) 0 (some (b + 83))) 1 (some (b + 85))))))), .inr (3, [.int 8, .int 2, .int 12, .ref (b + 84)]), .inl (cT 0, 25, .inl (fun _ => 0)), .inr (3, [.int 8, .int 2, .int 12, .ref (b + 86)]), .inl (cT 0, 25, .inl (fun _ => 0)), .inl (cT 7, 2, .inr (.inr (.inr (.inr (va_up (va_up (fun _ => none) 0 (some (b + 88))) 1 (some (b + 90))))))), .inr (1, [.int 5, .int 2, .int 17, .ref (b + 89)]), .inl (cT 0, 16, .inl (fun _ => 0)), .inr (1, [.int 5, .int 2, .int 17, .ref (b + 91)]), .inl (cT 0, 16, .inl (fun _ => 0)), .inl (cT 0, 4, .inl (fun _ => 0)), .inl (cT 1, 600, .inl (fun _ => 0)), .inl (cT 2, 3, .inl (fun _ => 0)), .inl (cT 9, 4, .inr (.inr (.inr (.inr (va_up (va_up (va_up (fun _ => none) 0 (some (b + 96))) 1 (some (b + 98))) 2 (some (b + 100))))))), .inr (0, [.ref (b + 97)]), .inl (cT 0, 58, .inl (upd (fun _ => 0) 2 (-1))), .inr (4, [.int 24, .int 3, .int 3, .ref (b + 99)]), .inl (cT 0, 97, .inl (fun _ => 0)), .inr (3, [.int 8, .int 2, .int 12, .ref (b + 101)]), .inl (cT 0, 25, .inl (fun _ => 0)), .inr (1, [.int 5, .int 2, .int 17, .ref (b + 103)]), .inl (cT 0, 16, .inl (fun _ => 0))]) H := hP
  have hz : Array.size H = b + 104 := hY.2
  refine W.widen (k := 103) (n := 4375) (Nat.le_of_ble_eq_true rfl) (Nat.le_of_ble_eq_true rfl) ?_
  refine gb_astq (E := "GooseBorder$Sheet") hx hb hK hP (fun k _ => Nat.le_add_right b k) hS hz 95 9 102 1 rfl rfl (Or.inr (hSt.2.1 _ gb_n1737)) rfl rfl (gb_in rfl) dX11_init_104 (fun H locs hP hz hS => ?_)
  have hP : va_P D vwCl (gb_wl b [.inr (9, [.ref (b + 1), .ref (b + 24), .ref (b + 94), .null, .null, .null, .null, .null, .null, .int 0]), .inr (8, [.ref (b + 2), .ref (b + 7), .ref (b + 12), .ref (b + 17), .ref (b + 22), .ref (b + 23), .int 0, .int 0, .int (-1)]), .inl (cT 4, 2, .inr (.inr (.inr (.inr (va_up (va_up (fun _ => none) 0 (some (b + 3))) 1 (some (b + 5))))))), .inr (0, [.ref (b + 4)]), .inl (cT 0, 58, .inl (upd (fun _ => 0) 2 (-1))), .inr (0, [.ref (b + 6)]), .inl (cT 0, 58, .inl (upd (fun _ => 0) 2 (-1))), .inl (cT 5, 2, .inr (.inr (.inr (.inr (va_up (va_up (fun _ => none) 0 (some (b + 8))) 1 (some (b + 10))))))), .inr (4, [.int 24, .int 3, .int 3, .ref (b + 9)]), .inl (cT 0, 97, .inl (fun _ => 0)), .inr (4, [.int 24, .int 3, .int 3, .ref (b + 11)]), .inl (cT 0, 97, .inl (fun _ => 0)), .inl (cT 6, 2, .inr (.inr (.inr (.inr (va_up (va_up (fun _ => none) 0 (some (b + 13))) 1 (some (b + 15))))))), .inr (3, [.int 8, .int 2, .int 12, .ref (b + 14)]), .inl (cT 0, 25, .inl (fun _ => 0)), .inr (3, [.int 8, .int 2, .int 12, .ref (b + 16)]), .inl (cT 0, 25, .inl (fun _ => 0)), .inl (cT 7, 2, .inr (.inr (.inr (.inr (va_up (va_up (fun _ => none) 0 (some (b + 18))) 1 (some (b + 20))))))), .inr (1, [.int 5, .int 2, .int 17, .ref (b + 19)]), .inl (cT 0, 16, .inl (fun _ => 0)), .inr (1, [.int 5, .int 2, .int 17, .ref (b + 21)]), .inl (cT 0, 16, .inl (fun _ => 0)), .inl (cT 0, 4, .inl (fun _ => 0)), .inl (cT 1, 600, .inl (fun _ => 0)), .inl (cT 8, 3, .inr (.inr (.inr (.inr (va_up (va_up (va_up (fun _ => none) 0 (some (b + 25))) 1 (some (b + 48))) 2 (some (b + 71))))))), .inr (8, [.ref (b + 26), .ref (b + 31), .ref (b + 36), .ref (b + 41), .ref (b + 46), .ref (b + 47), .int 0, .int 0, .int (-1)]), .inl (cT 4, 2, .inr (.inr (.inr (.inr (va_up (va_up (fun _ => none) 0 (some (b + 27))) 1 (some (b + 29))))))), .inr (0, [.ref (b + 28)]), .inl (cT 0, 58, .inl (upd (fun _ => 0) 2 (-1))), .inr (0, [.ref (b + 30)]), .inl (cT 0, 58, .inl (upd (fun _ => 0) 2 (-1))), .inl (cT 5, 2, .inr (.inr (.inr (.inr (va_up (va_up (fun _ => none) 0 (some (b + 32))) 1 (some (b + 34))))))), .inr (4, [.int 24, .int 3, .int 3, .ref (b + 33)]), .inl (cT 0, 97, .inl (fun _ => 0)), .inr (4, [.int 24, .int 3, .int 3, .ref (b + 35)]), .inl (cT 0, 97, .inl (fun _ => 0)), .inl (cT 6, 2, .inr (.inr (.inr (.inr (va_up (va_up (fun _ => none) 0 (some (b + 37))) 1 (some (b + 39))))))), .inr (3, [.int 8, .int 2, .int 12, .ref (b + 38)]), .inl (cT 0, 25, .inl (fun _ => 0)), .inr (3, [.int 8, .int 2, .int 12, .ref (b + 40)]), .inl (cT 0, 25, .inl (fun _ => 0)), .inl (cT 7, 2, .inr (.inr (.inr (.inr (va_up (va_up (fun _ => none) 0 (some (b + 42))) 1 (some (b + 44))))))), .inr (1, [.int 5, .int 2, .int 17, .ref (b + 43)]), .inl (cT 0, 16, .inl (fun _ => 0)), .inr (1, [.int 5, .int 2, .int 17, .ref (b + 45)]), .inl (cT 0, 16, .inl (fun _ => 0)), .inl (cT 0, 4, .inl (fun _ => 0)), .inl (cT 1, 600, .inl (fun _ => 0)), .inr (8, [.ref (b + 49), .ref (b + 54), .ref (b + 59), .ref (b + 64), .ref (b + 69), .ref (b + 70), .int 0, .int 0, .int (-1)]), .inl (cT 4, 2, .inr (.inr (.inr (.inr (va_up (va_up (fun _ => none) 0 (some (b + 50))) 1 (some (b + 52))))))), .inr (0, [.ref (b + 51)]), .inl (cT 0, 58, .inl (upd (fun _ => 0) 2 (-1))), .inr (0, [.ref (b + 53)]), .inl (cT 0, 58, .inl (upd (fun _ => 0) 2 (-1))), .inl (cT 5, 2, .inr (.inr (.inr (.inr (va_up (va_up (fun _ => none) 0 (some (b + 55))) 1 (some (b + 57))))))), .inr (4, [.int 24, .int 3, .int 3, .ref (b + 56)]), .inl (cT 0, 97, .inl (fun _ => 0)), .inr (4, [.int 24, .int 3, .int 3, .ref (b + 58)]), .inl (cT 0, 97, .inl (fun _ => 0)), .inl (cT 6, 2, .inr (.inr (.inr (.inr (va_up (va_up (fun _ => none) 0 (some (b + 60))) 1 (some (b + 62))))))), .inr (3, [.int 8, .int 2, .int 12, .ref (b + 61)]), .inl (cT 0, 25, .inl (fun _ => 0)), .inr (3, [.int 8, .int 2, .int 12, .ref (b + 63)]), .inl (cT 0, 25, .inl (fun _ => 0)), .inl (cT 7, 2, .inr (.inr (.inr (.inr (va_up (va_up (fun _ => none) 0 (some (b + 65))) 1 (some (b + 67))))))), .inr (1, [.int 5, .int 2, .int 17, .ref (b + 66)]), .inl (cT 0, 16, .inl (fun _ => 0)), .inr (1, [.int 5, .int 2, .int 17, .ref (b + 68)]), .inl (cT 0, 16, .inl (fun _ => 0)), .inl (cT 0, 4, .inl (fun _ => 0)), .inl (cT 1, 600, .inl (fun _ => 0)), .inr (8, [.ref (b + 72), .ref (b + 77), .ref (b + 82), .ref (b + 87), .ref (b + 92), .ref (b + 93), .int 0, .int 0, .int (-1)]), .inl (cT 4, 2, .inr (.inr (.inr (.inr (va_up (va_up (fun _ => none) 0 (some (b + 73))) 1 (some (b + 75))))))), .inr (0, [.ref (b + 74)]), .inl (cT 0, 58, .inl (upd (fun _ => 0) 2 (-1))), .inr (0, [.ref (b + 76)]), .inl (cT 0, 58, .inl (upd (fun _ => 0) 2 (-1))), .inl (cT 5, 2, .inr (.inr (.inr (.inr (va_up (va_up (fun _ => none) 0 (some (b + 78))) 1 (some (b + 80))))))), .inr (4, [.int 24, .int 3, .int 3, .ref (b + 79)]), .inl (cT 0, 97, .inl (fun _ => 0)), .inr (4, [.int 24, .int 3, .int 3, .ref (b + 81)]), .inl (cT 0, 97, .inl (fun _ => 0)), .inl (cT 6, 2, .inr (.inr (.inr (.inr (va_up (va_up (fun _ => none) 0 (some (b + 83))) 1 (some (b + 85))))))), .inr (3, [.int 8, .int 2, .int 12, .ref (b + 84)]), .inl (cT 0, 25, .inl (fun _ => 0)), .inr (3, [.int 8, .int 2, .int 12, .ref (b + 86)]), .inl (cT 0, 25, .inl (fun _ => 0)), .inl (cT 7, 2, .inr (.inr (.inr (.inr (va_up (va_up (fun _ => none) 0 (some (b + 88))) 1 (some (b + 90))))))), .inr (1, [.int 5, .int 2, .int 17, .ref (b + 89)]), .inl (cT 0, 16, .inl (fun _ => 0)), .inr (1, [.int 5, .int 2, .int 17, .ref (b + 91)]), .inl (cT 0, 16, .inl (fun _ => 0)), .inl (cT 0, 4, .inl (fun _ => 0)), .inl (cT 1, 600, .inl (fun _ => 0)), .inl (cT 2, 3, .inl (fun _ => 0)), .inl (cT 9, 4, .inr (.inr (.inr (.inr (va_up (va_up (va_up (va_up (fun _ => none) 0 (some (b + 96))) 1 (some (b + 98))) 2 (some (b + 100))) 3 (some (b + 102))))))), .inr (0, [.ref (b + 97)]), .inl (cT 0, 58, .inl (upd (fun _ => 0) 2 (-1))), .inr (4, [.int 24, .int 3, .int 3, .ref (b + 99)]), .inl (cT 0, 97, .inl (fun _ => 0)), .inr (3, [.int 8, .int 2, .int 12, .ref (b + 101)]), .inl (cT 0, 25, .inl (fun _ => 0)), .inr (1, [.int 5, .int 2, .int 17, .ref (b + 103)]), .inl (cT 0, 16, .inl (fun _ => 0))]) H := hP
  refine gb_putF (ci := 9) (v := (.ref (b + 95))) (ty := .array (.object "GooseBorder$Sheet")) (C := RX11) (T := TX11) (N := 10) hx hb hq i_X11 tyX11 tyX11_ok nmX11 hown hK hP (fun k _ => Nat.le_add_right b k) hS hz 0 rfl rfl 3 (by decide) (hq _ w_318) (fun _ h9 => h9) rfl hin rfl (by decide +kernel) rfl rfl (Nat.le_of_ble_eq_true rfl) dX11_init_105 (fun H locs hP hz hS => ?_)
  have hP : va_P D vwCl (gb_wl b [.inr (9, [.ref (b + 1), .ref (b + 24), .ref (b + 94), .ref (b + 95), .null, .null, .null, .null, .null, .int 0]), .inr (8, [.ref (b + 2), .ref (b + 7), .ref (b + 12), .ref (b + 17), .ref (b + 22), .ref (b + 23), .int 0, .int 0, .int (-1)]), .inl (cT 4, 2, .inr (.inr (.inr (.inr (va_up (va_up (fun _ => none) 0 (some (b + 3))) 1 (some (b + 5))))))), .inr (0, [.ref (b + 4)]), .inl (cT 0, 58, .inl (upd (fun _ => 0) 2 (-1))), .inr (0, [.ref (b + 6)]), .inl (cT 0, 58, .inl (upd (fun _ => 0) 2 (-1))), .inl (cT 5, 2, .inr (.inr (.inr (.inr (va_up (va_up (fun _ => none) 0 (some (b + 8))) 1 (some (b + 10))))))), .inr (4, [.int 24, .int 3, .int 3, .ref (b + 9)]), .inl (cT 0, 97, .inl (fun _ => 0)), .inr (4, [.int 24, .int 3, .int 3, .ref (b + 11)]), .inl (cT 0, 97, .inl (fun _ => 0)), .inl (cT 6, 2, .inr (.inr (.inr (.inr (va_up (va_up (fun _ => none) 0 (some (b + 13))) 1 (some (b + 15))))))), .inr (3, [.int 8, .int 2, .int 12, .ref (b + 14)]), .inl (cT 0, 25, .inl (fun _ => 0)), .inr (3, [.int 8, .int 2, .int 12, .ref (b + 16)]), .inl (cT 0, 25, .inl (fun _ => 0)), .inl (cT 7, 2, .inr (.inr (.inr (.inr (va_up (va_up (fun _ => none) 0 (some (b + 18))) 1 (some (b + 20))))))), .inr (1, [.int 5, .int 2, .int 17, .ref (b + 19)]), .inl (cT 0, 16, .inl (fun _ => 0)), .inr (1, [.int 5, .int 2, .int 17, .ref (b + 21)]), .inl (cT 0, 16, .inl (fun _ => 0)), .inl (cT 0, 4, .inl (fun _ => 0)), .inl (cT 1, 600, .inl (fun _ => 0)), .inl (cT 8, 3, .inr (.inr (.inr (.inr (va_up (va_up (va_up (fun _ => none) 0 (some (b + 25))) 1 (some (b + 48))) 2 (some (b + 71))))))), .inr (8, [.ref (b + 26), .ref (b + 31), .ref (b + 36), .ref (b + 41), .ref (b + 46), .ref (b + 47), .int 0, .int 0, .int (-1)]), .inl (cT 4, 2, .inr (.inr (.inr (.inr (va_up (va_up (fun _ => none) 0 (some (b + 27))) 1 (some (b + 29))))))), .inr (0, [.ref (b + 28)]), .inl (cT 0, 58, .inl (upd (fun _ => 0) 2 (-1))), .inr (0, [.ref (b + 30)]), .inl (cT 0, 58, .inl (upd (fun _ => 0) 2 (-1))), .inl (cT 5, 2, .inr (.inr (.inr (.inr (va_up (va_up (fun _ => none) 0 (some (b + 32))) 1 (some (b + 34))))))), .inr (4, [.int 24, .int 3, .int 3, .ref (b + 33)]), .inl (cT 0, 97, .inl (fun _ => 0)), .inr (4, [.int 24, .int 3, .int 3, .ref (b + 35)]), .inl (cT 0, 97, .inl (fun _ => 0)), .inl (cT 6, 2, .inr (.inr (.inr (.inr (va_up (va_up (fun _ => none) 0 (some (b + 37))) 1 (some (b + 39))))))), .inr (3, [.int 8, .int 2, .int 12, .ref (b + 38)]), .inl (cT 0, 25, .inl (fun _ => 0)), .inr (3, [.int 8, .int 2, .int 12, .ref (b + 40)]), .inl (cT 0, 25, .inl (fun _ => 0)), .inl (cT 7, 2, .inr (.inr (.inr (.inr (va_up (va_up (fun _ => none) 0 (some (b + 42))) 1 (some (b + 44))))))), .inr (1, [.int 5, .int 2, .int 17, .ref (b + 43)]), .inl (cT 0, 16, .inl (fun _ => 0)), .inr (1, [.int 5, .int 2, .int 17, .ref (b + 45)]), .inl (cT 0, 16, .inl (fun _ => 0)), .inl (cT 0, 4, .inl (fun _ => 0)), .inl (cT 1, 600, .inl (fun _ => 0)), .inr (8, [.ref (b + 49), .ref (b + 54), .ref (b + 59), .ref (b + 64), .ref (b + 69), .ref (b + 70), .int 0, .int 0, .int (-1)]), .inl (cT 4, 2, .inr (.inr (.inr (.inr (va_up (va_up (fun _ => none) 0 (some (b + 50))) 1 (some (b + 52))))))), .inr (0, [.ref (b + 51)]), .inl (cT 0, 58, .inl (upd (fun _ => 0) 2 (-1))), .inr (0, [.ref (b + 53)]), .inl (cT 0, 58, .inl (upd (fun _ => 0) 2 (-1))), .inl (cT 5, 2, .inr (.inr (.inr (.inr (va_up (va_up (fun _ => none) 0 (some (b + 55))) 1 (some (b + 57))))))), .inr (4, [.int 24, .int 3, .int 3, .ref (b + 56)]), .inl (cT 0, 97, .inl (fun _ => 0)), .inr (4, [.int 24, .int 3, .int 3, .ref (b + 58)]), .inl (cT 0, 97, .inl (fun _ => 0)), .inl (cT 6, 2, .inr (.inr (.inr (.inr (va_up (va_up (fun _ => none) 0 (some (b + 60))) 1 (some (b + 62))))))), .inr (3, [.int 8, .int 2, .int 12, .ref (b + 61)]), .inl (cT 0, 25, .inl (fun _ => 0)), .inr (3, [.int 8, .int 2, .int 12, .ref (b + 63)]), .inl (cT 0, 25, .inl (fun _ => 0)), .inl (cT 7, 2, .inr (.inr (.inr (.inr (va_up (va_up (fun _ => none) 0 (some (b + 65))) 1 (some (b + 67))))))), .inr (1, [.int 5, .int 2, .int 17, .ref (b + 66)]), .inl (cT 0, 16, .inl (fun _ => 0)), .inr (1, [.int 5, .int 2, .int 17, .ref (b + 68)]), .inl (cT 0, 16, .inl (fun _ => 0)), .inl (cT 0, 4, .inl (fun _ => 0)), .inl (cT 1, 600, .inl (fun _ => 0)), .inr (8, [.ref (b + 72), .ref (b + 77), .ref (b + 82), .ref (b + 87), .ref (b + 92), .ref (b + 93), .int 0, .int 0, .int (-1)]), .inl (cT 4, 2, .inr (.inr (.inr (.inr (va_up (va_up (fun _ => none) 0 (some (b + 73))) 1 (some (b + 75))))))), .inr (0, [.ref (b + 74)]), .inl (cT 0, 58, .inl (upd (fun _ => 0) 2 (-1))), .inr (0, [.ref (b + 76)]), .inl (cT 0, 58, .inl (upd (fun _ => 0) 2 (-1))), .inl (cT 5, 2, .inr (.inr (.inr (.inr (va_up (va_up (fun _ => none) 0 (some (b + 78))) 1 (some (b + 80))))))), .inr (4, [.int 24, .int 3, .int 3, .ref (b + 79)]), .inl (cT 0, 97, .inl (fun _ => 0)), .inr (4, [.int 24, .int 3, .int 3, .ref (b + 81)]), .inl (cT 0, 97, .inl (fun _ => 0)), .inl (cT 6, 2, .inr (.inr (.inr (.inr (va_up (va_up (fun _ => none) 0 (some (b + 83))) 1 (some (b + 85))))))), .inr (3, [.int 8, .int 2, .int 12, .ref (b + 84)]), .inl (cT 0, 25, .inl (fun _ => 0)), .inr (3, [.int 8, .int 2, .int 12, .ref (b + 86)]), .inl (cT 0, 25, .inl (fun _ => 0)), .inl (cT 7, 2, .inr (.inr (.inr (.inr (va_up (va_up (fun _ => none) 0 (some (b + 88))) 1 (some (b + 90))))))), .inr (1, [.int 5, .int 2, .int 17, .ref (b + 89)]), .inl (cT 0, 16, .inl (fun _ => 0)), .inr (1, [.int 5, .int 2, .int 17, .ref (b + 91)]), .inl (cT 0, 16, .inl (fun _ => 0)), .inl (cT 0, 4, .inl (fun _ => 0)), .inl (cT 1, 600, .inl (fun _ => 0)), .inl (cT 2, 3, .inl (fun _ => 0)), .inl (cT 9, 4, .inr (.inr (.inr (.inr (va_up (va_up (va_up (va_up (fun _ => none) 0 (some (b + 96))) 1 (some (b + 98))) 2 (some (b + 100))) 3 (some (b + 102))))))), .inr (0, [.ref (b + 97)]), .inl (cT 0, 58, .inl (upd (fun _ => 0) 2 (-1))), .inr (4, [.int 24, .int 3, .int 3, .ref (b + 99)]), .inl (cT 0, 97, .inl (fun _ => 0)), .inr (3, [.int 8, .int 2, .int 12, .ref (b + 101)]), .inl (cT 0, 25, .inl (fun _ => 0)), .inr (1, [.int 5, .int 2, .int 17, .ref (b + 103)]), .inl (cT 0, 16, .inl (fun _ => 0))]) H := hP
  refine lv_aload_n hx hb dX11_init_108 rfl (lv_at hl 0 rfl) ?_
  refine gb_new (ci := 4) (fs := [.int 0, .int 0, .int 0, .null]) (C := RX5) (T := TX5) (N := 4) hx hb hq i_X5 tyX5 tyX5_ok hown (hq _ w_155) (hq _ w_62) (hq _ w_7) hK hP hS 104 hz rfl rfl (fun j hj => by rcases (show j = 0 ∨ j = 1 ∨ j = 2 ∨ j = 3 by omega) with rfl | rfl | rfl | rfl <;> rfl) (Nat.le_of_ble_eq_true rfl) (Nat.le_of_ble_eq_true rfl) dX11_init_109 (fun H hP hz hS => ?_)
  have hP : va_P D vwCl (gb_wl b [.inr (9, [.ref (b + 1), .ref (b + 24), .ref (b + 94), .ref (b + 95), .null, .null, .null, .null, .null, .int 0]), .inr (8, [.ref (b + 2), .ref (b + 7), .ref (b + 12), .ref (b + 17), .ref (b + 22), .ref (b + 23), .int 0, .int 0, .int (-1)]), .inl (cT 4, 2, .inr (.inr (.inr (.inr (va_up (va_up (fun _ => none) 0 (some (b + 3))) 1 (some (b + 5))))))), .inr (0, [.ref (b + 4)]), .inl (cT 0, 58, .inl (upd (fun _ => 0) 2 (-1))), .inr (0, [.ref (b + 6)]), .inl (cT 0, 58, .inl (upd (fun _ => 0) 2 (-1))), .inl (cT 5, 2, .inr (.inr (.inr (.inr (va_up (va_up (fun _ => none) 0 (some (b + 8))) 1 (some (b + 10))))))), .inr (4, [.int 24, .int 3, .int 3, .ref (b + 9)]), .inl (cT 0, 97, .inl (fun _ => 0)), .inr (4, [.int 24, .int 3, .int 3, .ref (b + 11)]), .inl (cT 0, 97, .inl (fun _ => 0)), .inl (cT 6, 2, .inr (.inr (.inr (.inr (va_up (va_up (fun _ => none) 0 (some (b + 13))) 1 (some (b + 15))))))), .inr (3, [.int 8, .int 2, .int 12, .ref (b + 14)]), .inl (cT 0, 25, .inl (fun _ => 0)), .inr (3, [.int 8, .int 2, .int 12, .ref (b + 16)]), .inl (cT 0, 25, .inl (fun _ => 0)), .inl (cT 7, 2, .inr (.inr (.inr (.inr (va_up (va_up (fun _ => none) 0 (some (b + 18))) 1 (some (b + 20))))))), .inr (1, [.int 5, .int 2, .int 17, .ref (b + 19)]), .inl (cT 0, 16, .inl (fun _ => 0)), .inr (1, [.int 5, .int 2, .int 17, .ref (b + 21)]), .inl (cT 0, 16, .inl (fun _ => 0)), .inl (cT 0, 4, .inl (fun _ => 0)), .inl (cT 1, 600, .inl (fun _ => 0)), .inl (cT 8, 3, .inr (.inr (.inr (.inr (va_up (va_up (va_up (fun _ => none) 0 (some (b + 25))) 1 (some (b + 48))) 2 (some (b + 71))))))), .inr (8, [.ref (b + 26), .ref (b + 31), .ref (b + 36), .ref (b + 41), .ref (b + 46), .ref (b + 47), .int 0, .int 0, .int (-1)]), .inl (cT 4, 2, .inr (.inr (.inr (.inr (va_up (va_up (fun _ => none) 0 (some (b + 27))) 1 (some (b + 29))))))), .inr (0, [.ref (b + 28)]), .inl (cT 0, 58, .inl (upd (fun _ => 0) 2 (-1))), .inr (0, [.ref (b + 30)]), .inl (cT 0, 58, .inl (upd (fun _ => 0) 2 (-1))), .inl (cT 5, 2, .inr (.inr (.inr (.inr (va_up (va_up (fun _ => none) 0 (some (b + 32))) 1 (some (b + 34))))))), .inr (4, [.int 24, .int 3, .int 3, .ref (b + 33)]), .inl (cT 0, 97, .inl (fun _ => 0)), .inr (4, [.int 24, .int 3, .int 3, .ref (b + 35)]), .inl (cT 0, 97, .inl (fun _ => 0)), .inl (cT 6, 2, .inr (.inr (.inr (.inr (va_up (va_up (fun _ => none) 0 (some (b + 37))) 1 (some (b + 39))))))), .inr (3, [.int 8, .int 2, .int 12, .ref (b + 38)]), .inl (cT 0, 25, .inl (fun _ => 0)), .inr (3, [.int 8, .int 2, .int 12, .ref (b + 40)]), .inl (cT 0, 25, .inl (fun _ => 0)), .inl (cT 7, 2, .inr (.inr (.inr (.inr (va_up (va_up (fun _ => none) 0 (some (b + 42))) 1 (some (b + 44))))))), .inr (1, [.int 5, .int 2, .int 17, .ref (b + 43)]), .inl (cT 0, 16, .inl (fun _ => 0)), .inr (1, [.int 5, .int 2, .int 17, .ref (b + 45)]), .inl (cT 0, 16, .inl (fun _ => 0)), .inl (cT 0, 4, .inl (fun _ => 0)), .inl (cT 1, 600, .inl (fun _ => 0)), .inr (8, [.ref (b + 49), .ref (b + 54), .ref (b + 59), .ref (b + 64), .ref (b + 69), .ref (b + 70), .int 0, .int 0, .int (-1)]), .inl (cT 4, 2, .inr (.inr (.inr (.inr (va_up (va_up (fun _ => none) 0 (some (b + 50))) 1 (some (b + 52))))))), .inr (0, [.ref (b + 51)]), .inl (cT 0, 58, .inl (upd (fun _ => 0) 2 (-1))), .inr (0, [.ref (b + 53)]), .inl (cT 0, 58, .inl (upd (fun _ => 0) 2 (-1))), .inl (cT 5, 2, .inr (.inr (.inr (.inr (va_up (va_up (fun _ => none) 0 (some (b + 55))) 1 (some (b + 57))))))), .inr (4, [.int 24, .int 3, .int 3, .ref (b + 56)]), .inl (cT 0, 97, .inl (fun _ => 0)), .inr (4, [.int 24, .int 3, .int 3, .ref (b + 58)]), .inl (cT 0, 97, .inl (fun _ => 0)), .inl (cT 6, 2, .inr (.inr (.inr (.inr (va_up (va_up (fun _ => none) 0 (some (b + 60))) 1 (some (b + 62))))))), .inr (3, [.int 8, .int 2, .int 12, .ref (b + 61)]), .inl (cT 0, 25, .inl (fun _ => 0)), .inr (3, [.int 8, .int 2, .int 12, .ref (b + 63)]), .inl (cT 0, 25, .inl (fun _ => 0)), .inl (cT 7, 2, .inr (.inr (.inr (.inr (va_up (va_up (fun _ => none) 0 (some (b + 65))) 1 (some (b + 67))))))), .inr (1, [.int 5, .int 2, .int 17, .ref (b + 66)]), .inl (cT 0, 16, .inl (fun _ => 0)), .inr (1, [.int 5, .int 2, .int 17, .ref (b + 68)]), .inl (cT 0, 16, .inl (fun _ => 0)), .inl (cT 0, 4, .inl (fun _ => 0)), .inl (cT 1, 600, .inl (fun _ => 0)), .inr (8, [.ref (b + 72), .ref (b + 77), .ref (b + 82), .ref (b + 87), .ref (b + 92), .ref (b + 93), .int 0, .int 0, .int (-1)]), .inl (cT 4, 2, .inr (.inr (.inr (.inr (va_up (va_up (fun _ => none) 0 (some (b + 73))) 1 (some (b + 75))))))), .inr (0, [.ref (b + 74)]), .inl (cT 0, 58, .inl (upd (fun _ => 0) 2 (-1))), .inr (0, [.ref (b + 76)]), .inl (cT 0, 58, .inl (upd (fun _ => 0) 2 (-1))), .inl (cT 5, 2, .inr (.inr (.inr (.inr (va_up (va_up (fun _ => none) 0 (some (b + 78))) 1 (some (b + 80))))))), .inr (4, [.int 24, .int 3, .int 3, .ref (b + 79)]), .inl (cT 0, 97, .inl (fun _ => 0)), .inr (4, [.int 24, .int 3, .int 3, .ref (b + 81)]), .inl (cT 0, 97, .inl (fun _ => 0)), .inl (cT 6, 2, .inr (.inr (.inr (.inr (va_up (va_up (fun _ => none) 0 (some (b + 83))) 1 (some (b + 85))))))), .inr (3, [.int 8, .int 2, .int 12, .ref (b + 84)]), .inl (cT 0, 25, .inl (fun _ => 0)), .inr (3, [.int 8, .int 2, .int 12, .ref (b + 86)]), .inl (cT 0, 25, .inl (fun _ => 0)), .inl (cT 7, 2, .inr (.inr (.inr (.inr (va_up (va_up (fun _ => none) 0 (some (b + 88))) 1 (some (b + 90))))))), .inr (1, [.int 5, .int 2, .int 17, .ref (b + 89)]), .inl (cT 0, 16, .inl (fun _ => 0)), .inr (1, [.int 5, .int 2, .int 17, .ref (b + 91)]), .inl (cT 0, 16, .inl (fun _ => 0)), .inl (cT 0, 4, .inl (fun _ => 0)), .inl (cT 1, 600, .inl (fun _ => 0)), .inl (cT 2, 3, .inl (fun _ => 0)), .inl (cT 9, 4, .inr (.inr (.inr (.inr (va_up (va_up (va_up (va_up (fun _ => none) 0 (some (b + 96))) 1 (some (b + 98))) 2 (some (b + 100))) 3 (some (b + 102))))))), .inr (0, [.ref (b + 97)]), .inl (cT 0, 58, .inl (upd (fun _ => 0) 2 (-1))), .inr (4, [.int 24, .int 3, .int 3, .ref (b + 99)]), .inl (cT 0, 97, .inl (fun _ => 0)), .inr (3, [.int 8, .int 2, .int 12, .ref (b + 101)]), .inl (cT 0, 25, .inl (fun _ => 0)), .inr (1, [.int 5, .int 2, .int 17, .ref (b + 103)]), .inl (cT 0, 16, .inl (fun _ => 0)), .inr (4, [.int 0, .int 0, .int 0, .null])]) H := hP
  refine W.widen (k := 104) (n := 4379) (Nat.le_of_ble_eq_true rfl) (Nat.le_of_ble_eq_true rfl) ?_
  refine lv_dup hx hb dX11_init_112 rfl ?_
  have hPc := gb_drop hP 104 (suf := [.inr (4, [.int 0, .int 0, .int 0, .null])]) rfl rfl
  refine gb_callv (va_runI (As := []) (rest := [.ref (b + 104), .ref (b + 0)]) ⟨hx, hb, hml, hown, hq⟩ (k_X5_init l D cT tt b1 (b + 104) (Nat.le_trans hb1 (Nat.le_add_right b 104))) (cwI 0 hq (gb_gI w_65) rfl rfl rfl (hq _ w_7) (hq _ w_156) (hq _ w_64) rfl (by decide +kernel) ⟨Nat.le_of_ble_eq_true rfl, Nat.le_of_ble_eq_true rfl⟩) (gb_preS hSt hS (fun q h => Nat.le_trans hb1 h) (show va_P D vwCl (gb_wl (b + 104) [.inr (4, [.int 0, .int 0, .int 0, .null])]) H ∧ Array.size H = b + 104 + 1 from ⟨hPc, hz⟩)) rfl rfl hl.1 rfl (lv_room (Nat.le_of_ble_eq_true rfl)) dX11_init_113 ⟨Nat.le_of_ble_eq_true rfl, Nat.le_of_ble_eq_true rfl⟩) hS (fun q h => Nat.le_trans (Nat.le_add_right b 104) h) (fun q h => Nat.le_trans (Nat.le_add_right b 104) h) (fun H locs hY hk hS => ?_)
  have hP := gb_glue hP 104 (pre := [.inr (9, [.ref (b + 1), .ref (b + 24), .ref (b + 94), .ref (b + 95), .null, .null, .null, .null, .null, .int 0]), .inr (8, [.ref (b + 2), .ref (b + 7), .ref (b + 12), .ref (b + 17), .ref (b + 22), .ref (b + 23), .int 0, .int 0, .int (-1)]), .inl (cT 4, 2, .inr (.inr (.inr (.inr (va_up (va_up (fun _ => none) 0 (some (b + 3))) 1 (some (b + 5))))))), .inr (0, [.ref (b + 4)]), .inl (cT 0, 58, .inl (upd (fun _ => 0) 2 (-1))), .inr (0, [.ref (b + 6)]), .inl (cT 0, 58, .inl (upd (fun _ => 0) 2 (-1))), .inl (cT 5, 2, .inr (.inr (.inr (.inr (va_up (va_up (fun _ => none) 0 (some (b + 8))) 1 (some (b + 10))))))), .inr (4, [.int 24, .int 3, .int 3, .ref (b + 9)]), .inl (cT 0, 97, .inl (fun _ => 0)), .inr (4, [.int 24, .int 3, .int 3, .ref (b + 11)]), .inl (cT 0, 97, .inl (fun _ => 0)), .inl (cT 6, 2, .inr (.inr (.inr (.inr (va_up (va_up (fun _ => none) 0 (some (b + 13))) 1 (some (b + 15))))))), .inr (3, [.int 8, .int 2, .int 12, .ref (b + 14)]), .inl (cT 0, 25, .inl (fun _ => 0)), .inr (3, [.int 8, .int 2, .int 12, .ref (b + 16)]), .inl (cT 0, 25, .inl (fun _ => 0)), .inl (cT 7, 2, .inr (.inr (.inr (.inr (va_up (va_up (fun _ => none) 0 (some (b + 18))) 1 (some (b + 20))))))), .inr (1, [.int 5, .int 2, .int 17, .ref (b + 19)]), .inl (cT 0, 16, .inl (fun _ => 0)), .inr (1, [.int 5, .int 2, .int 17, .ref (b + 21)]), .inl (cT 0, 16, .inl (fun _ => 0)), .inl (cT 0, 4, .inl (fun _ => 0)), .inl (cT 1, 600, .inl (fun _ => 0)), .inl (cT 8, 3, .inr (.inr (.inr (.inr (va_up (va_up (va_up (fun _ => none) 0 (some (b + 25))) 1 (some (b + 48))) 2 (some (b + 71))))))), .inr (8, [.ref (b + 26), .ref (b + 31), .ref (b + 36), .ref (b + 41), .ref (b + 46), .ref (b + 47), .int 0, .int 0, .int (-1)]), .inl (cT 4, 2, .inr (.inr (.inr (.inr (va_up (va_up (fun _ => none) 0 (some (b + 27))) 1 (some (b + 29))))))), .inr (0, [.ref (b + 28)]), .inl (cT 0, 58, .inl (upd (fun _ => 0) 2 (-1))), .inr (0, [.ref (b + 30)]), .inl (cT 0, 58, .inl (upd (fun _ => 0) 2 (-1))), .inl (cT 5, 2, .inr (.inr (.inr (.inr (va_up (va_up (fun _ => none) 0 (some (b + 32))) 1 (some (b + 34))))))), .inr (4, [.int 24, .int 3, .int 3, .ref (b + 33)]), .inl (cT 0, 97, .inl (fun _ => 0)), .inr (4, [.int 24, .int 3, .int 3, .ref (b + 35)]), .inl (cT 0, 97, .inl (fun _ => 0)), .inl (cT 6, 2, .inr (.inr (.inr (.inr (va_up (va_up (fun _ => none) 0 (some (b + 37))) 1 (some (b + 39))))))), .inr (3, [.int 8, .int 2, .int 12, .ref (b + 38)]), .inl (cT 0, 25, .inl (fun _ => 0)), .inr (3, [.int 8, .int 2, .int 12, .ref (b + 40)]), .inl (cT 0, 25, .inl (fun _ => 0)), .inl (cT 7, 2, .inr (.inr (.inr (.inr (va_up (va_up (fun _ => none) 0 (some (b + 42))) 1 (some (b + 44))))))), .inr (1, [.int 5, .int 2, .int 17, .ref (b + 43)]), .inl (cT 0, 16, .inl (fun _ => 0)), .inr (1, [.int 5, .int 2, .int 17, .ref (b + 45)]), .inl (cT 0, 16, .inl (fun _ => 0)), .inl (cT 0, 4, .inl (fun _ => 0)), .inl (cT 1, 600, .inl (fun _ => 0)), .inr (8, [.ref (b + 49), .ref (b + 54), .ref (b + 59), .ref (b + 64), .ref (b + 69), .ref (b + 70), .int 0, .int 0, .int (-1)]), .inl (cT 4, 2, .inr (.inr (.inr (.inr (va_up (va_up (fun _ => none) 0 (some (b + 50))) 1 (some (b + 52))))))), .inr (0, [.ref (b + 51)]), .inl (cT 0, 58, .inl (upd (fun _ => 0) 2 (-1))), .inr (0, [.ref (b + 53)]), .inl (cT 0, 58, .inl (upd (fun _ => 0) 2 (-1))), .inl (cT 5, 2, .inr (.inr (.inr (.inr (va_up (va_up (fun _ => none) 0 (some (b + 55))) 1 (some (b + 57))))))), .inr (4, [.int 24, .int 3, .int 3, .ref (b + 56)]), .inl (cT 0, 97, .inl (fun _ => 0)), .inr (4, [.int 24, .int 3, .int 3, .ref (b + 58)]), .inl (cT 0, 97, .inl (fun _ => 0)), .inl (cT 6, 2, .inr (.inr (.inr (.inr (va_up (va_up (fun _ => none) 0 (some (b + 60))) 1 (some (b + 62))))))), .inr (3, [.int 8, .int 2, .int 12, .ref (b + 61)]), .inl (cT 0, 25, .inl (fun _ => 0)), .inr (3, [.int 8, .int 2, .int 12, .ref (b + 63)]), .inl (cT 0, 25, .inl (fun _ => 0)), .inl (cT 7, 2, .inr (.inr (.inr (.inr (va_up (va_up (fun _ => none) 0 (some (b + 65))) 1 (some (b + 67))))))), .inr (1, [.int 5, .int 2, .int 17, .ref (b + 66)]), .inl (cT 0, 16, .inl (fun _ => 0)), .inr (1, [.int 5, .int 2, .int 17, .ref (b + 68)]), .inl (cT 0, 16, .inl (fun _ => 0)), .inl (cT 0, 4, .inl (fun _ => 0)), .inl (cT 1, 600, .inl (fun _ => 0)), .inr (8, [.ref (b + 72), .ref (b + 77), .ref (b + 82), .ref (b + 87), .ref (b + 92), .ref (b + 93), .int 0, .int 0, .int (-1)]), .inl (cT 4, 2, .inr (.inr (.inr (.inr (va_up (va_up (fun _ => none) 0 (some (b + 73))) 1 (some (b + 75))))))), .inr (0, [.ref (b + 74)]), .inl (cT 0, 58, .inl (upd (fun _ => 0) 2 (-1))), .inr (0, [.ref (b + 76)]), .inl (cT 0, 58, .inl (upd (fun _ => 0) 2 (-1))), .inl (cT 5, 2, .inr (.inr (.inr (.inr (va_up (va_up (fun _ => none) 0 (some (b + 78))) 1 (some (b + 80))))))), .inr (4, [.int 24, .int 3, .int 3, .ref (b + 79)]), .inl (cT 0, 97, .inl (fun _ => 0)), .inr (4, [.int 24, .int 3, .int 3, .ref (b + 81)]), .inl (cT 0, 97, .inl (fun _ => 0)), .inl (cT 6, 2, .inr (.inr (.inr (.inr (va_up (va_up (fun _ => none) 0 (some (b + 83))) 1 (some (b + 85))))))), .inr (3, [.int 8, .int 2, .int 12, .ref (b + 84)]), .inl (cT 0, 25, .inl (fun _ => 0)), .inr (3, [.int 8, .int 2, .int 12, .ref (b + 86)]), .inl (cT 0, 25, .inl (fun _ => 0)), .inl (cT 7, 2, .inr (.inr (.inr (.inr (va_up (va_up (fun _ => none) 0 (some (b + 88))) 1 (some (b + 90))))))), .inr (1, [.int 5, .int 2, .int 17, .ref (b + 89)]), .inl (cT 0, 16, .inl (fun _ => 0)), .inr (1, [.int 5, .int 2, .int 17, .ref (b + 91)]), .inl (cT 0, 16, .inl (fun _ => 0)), .inl (cT 0, 4, .inl (fun _ => 0)), .inl (cT 1, 600, .inl (fun _ => 0)), .inl (cT 2, 3, .inl (fun _ => 0)), .inl (cT 9, 4, .inr (.inr (.inr (.inr (va_up (va_up (va_up (va_up (fun _ => none) 0 (some (b + 96))) 1 (some (b + 98))) 2 (some (b + 100))) 3 (some (b + 102))))))), .inr (0, [.ref (b + 97)]), .inl (cT 0, 58, .inl (upd (fun _ => 0) 2 (-1))), .inr (4, [.int 24, .int 3, .int 3, .ref (b + 99)]), .inl (cT 0, 97, .inl (fun _ => 0)), .inr (3, [.int 8, .int 2, .int 12, .ref (b + 101)]), .inl (cT 0, 25, .inl (fun _ => 0)), .inr (1, [.int 5, .int 2, .int 17, .ref (b + 103)]), .inl (cT 0, 16, .inl (fun _ => 0))]) rfl rfl hk hY.1
  have hP : va_P D vwCl (gb_wl b [.inr (9, [.ref (b + 1), .ref (b + 24), .ref (b + 94), .ref (b + 95), .null, .null, .null, .null, .null, .int 0]), .inr (8, [.ref (b + 2), .ref (b + 7), .ref (b + 12), .ref (b + 17), .ref (b + 22), .ref (b + 23), .int 0, .int 0, .int (-1)]), .inl (cT 4, 2, .inr (.inr (.inr (.inr (va_up (va_up (fun _ => none) 0 (some (b + 3))) 1 (some (b + 5))))))), .inr (0, [.ref (b + 4)]), .inl (cT 0, 58, .inl (upd (fun _ => 0) 2 (-1))), .inr (0, [.ref (b + 6)]), .inl (cT 0, 58, .inl (upd (fun _ => 0) 2 (-1))), .inl (cT 5, 2, .inr (.inr (.inr (.inr (va_up (va_up (fun _ => none) 0 (some (b + 8))) 1 (some (b + 10))))))), .inr (4, [.int 24, .int 3, .int 3, .ref (b + 9)]), .inl (cT 0, 97, .inl (fun _ => 0)), .inr (4, [.int 24, .int 3, .int 3, .ref (b + 11)]), .inl (cT 0, 97, .inl (fun _ => 0)), .inl (cT 6, 2, .inr (.inr (.inr (.inr (va_up (va_up (fun _ => none) 0 (some (b + 13))) 1 (some (b + 15))))))), .inr (3, [.int 8, .int 2, .int 12, .ref (b + 14)]), .inl (cT 0, 25, .inl (fun _ => 0)), .inr (3, [.int 8, .int 2, .int 12, .ref (b + 16)]), .inl (cT 0, 25, .inl (fun _ => 0)), .inl (cT 7, 2, .inr (.inr (.inr (.inr (va_up (va_up (fun _ => none) 0 (some (b + 18))) 1 (some (b + 20))))))), .inr (1, [.int 5, .int 2, .int 17, .ref (b + 19)]), .inl (cT 0, 16, .inl (fun _ => 0)), .inr (1, [.int 5, .int 2, .int 17, .ref (b + 21)]), .inl (cT 0, 16, .inl (fun _ => 0)), .inl (cT 0, 4, .inl (fun _ => 0)), .inl (cT 1, 600, .inl (fun _ => 0)), .inl (cT 8, 3, .inr (.inr (.inr (.inr (va_up (va_up (va_up (fun _ => none) 0 (some (b + 25))) 1 (some (b + 48))) 2 (some (b + 71))))))), .inr (8, [.ref (b + 26), .ref (b + 31), .ref (b + 36), .ref (b + 41), .ref (b + 46), .ref (b + 47), .int 0, .int 0, .int (-1)]), .inl (cT 4, 2, .inr (.inr (.inr (.inr (va_up (va_up (fun _ => none) 0 (some (b + 27))) 1 (some (b + 29))))))), .inr (0, [.ref (b + 28)]), .inl (cT 0, 58, .inl (upd (fun _ => 0) 2 (-1))), .inr (0, [.ref (b + 30)]), .inl (cT 0, 58, .inl (upd (fun _ => 0) 2 (-1))), .inl (cT 5, 2, .inr (.inr (.inr (.inr (va_up (va_up (fun _ => none) 0 (some (b + 32))) 1 (some (b + 34))))))), .inr (4, [.int 24, .int 3, .int 3, .ref (b + 33)]), .inl (cT 0, 97, .inl (fun _ => 0)), .inr (4, [.int 24, .int 3, .int 3, .ref (b + 35)]), .inl (cT 0, 97, .inl (fun _ => 0)), .inl (cT 6, 2, .inr (.inr (.inr (.inr (va_up (va_up (fun _ => none) 0 (some (b + 37))) 1 (some (b + 39))))))), .inr (3, [.int 8, .int 2, .int 12, .ref (b + 38)]), .inl (cT 0, 25, .inl (fun _ => 0)), .inr (3, [.int 8, .int 2, .int 12, .ref (b + 40)]), .inl (cT 0, 25, .inl (fun _ => 0)), .inl (cT 7, 2, .inr (.inr (.inr (.inr (va_up (va_up (fun _ => none) 0 (some (b + 42))) 1 (some (b + 44))))))), .inr (1, [.int 5, .int 2, .int 17, .ref (b + 43)]), .inl (cT 0, 16, .inl (fun _ => 0)), .inr (1, [.int 5, .int 2, .int 17, .ref (b + 45)]), .inl (cT 0, 16, .inl (fun _ => 0)), .inl (cT 0, 4, .inl (fun _ => 0)), .inl (cT 1, 600, .inl (fun _ => 0)), .inr (8, [.ref (b + 49), .ref (b + 54), .ref (b + 59), .ref (b + 64), .ref (b + 69), .ref (b + 70), .int 0, .int 0, .int (-1)]), .inl (cT 4, 2, .inr (.inr (.inr (.inr (va_up (va_up (fun _ => none) 0 (some (b + 50))) 1 (some (b + 52))))))), .inr (0, [.ref (b + 51)]), .inl (cT 0, 58, .inl (upd (fun _ => 0) 2 (-1))), .inr (0, [.ref (b + 53)]), .inl (cT 0, 58, .inl (upd (fun _ => 0) 2 (-1))), .inl (cT 5, 2, .inr (.inr (.inr (.inr (va_up (va_up (fun _ => none) 0 (some (b + 55))) 1 (some (b + 57))))))), .inr (4, [.int 24, .int 3, .int 3, .ref (b + 56)]), .inl (cT 0, 97, .inl (fun _ => 0)), .inr (4, [.int 24, .int 3, .int 3, .ref (b + 58)]), .inl (cT 0, 97, .inl (fun _ => 0)), .inl (cT 6, 2, .inr (.inr (.inr (.inr (va_up (va_up (fun _ => none) 0 (some (b + 60))) 1 (some (b + 62))))))), .inr (3, [.int 8, .int 2, .int 12, .ref (b + 61)]), .inl (cT 0, 25, .inl (fun _ => 0)), .inr (3, [.int 8, .int 2, .int 12, .ref (b + 63)]), .inl (cT 0, 25, .inl (fun _ => 0)), .inl (cT 7, 2, .inr (.inr (.inr (.inr (va_up (va_up (fun _ => none) 0 (some (b + 65))) 1 (some (b + 67))))))), .inr (1, [.int 5, .int 2, .int 17, .ref (b + 66)]), .inl (cT 0, 16, .inl (fun _ => 0)), .inr (1, [.int 5, .int 2, .int 17, .ref (b + 68)]), .inl (cT 0, 16, .inl (fun _ => 0)), .inl (cT 0, 4, .inl (fun _ => 0)), .inl (cT 1, 600, .inl (fun _ => 0)), .inr (8, [.ref (b + 72), .ref (b + 77), .ref (b + 82), .ref (b + 87), .ref (b + 92), .ref (b + 93), .int 0, .int 0, .int (-1)]), .inl (cT 4, 2, .inr (.inr (.inr (.inr (va_up (va_up (fun _ => none) 0 (some (b + 73))) 1 (some (b + 75))))))), .inr (0, [.ref (b + 74)]), .inl (cT 0, 58, .inl (upd (fun _ => 0) 2 (-1))), .inr (0, [.ref (b + 76)]), .inl (cT 0, 58, .inl (upd (fun _ => 0) 2 (-1))), .inl (cT 5, 2, .inr (.inr (.inr (.inr (va_up (va_up (fun _ => none) 0 (some (b + 78))) 1 (some (b + 80))))))), .inr (4, [.int 24, .int 3, .int 3, .ref (b + 79)]), .inl (cT 0, 97, .inl (fun _ => 0)), .inr (4, [.int 24, .int 3, .int 3, .ref (b + 81)]), .inl (cT 0, 97, .inl (fun _ => 0)), .inl (cT 6, 2, .inr (.inr (.inr (.inr (va_up (va_up (fun _ => none) 0 (some (b + 83))) 1 (some (b + 85))))))), .inr (3, [.int 8, .int 2, .int 12, .ref (b + 84)]), .inl (cT 0, 25, .inl (fun _ => 0)), .inr (3, [.int 8, .int 2, .int 12, .ref (b + 86)]), .inl (cT 0, 25, .inl (fun _ => 0)), .inl (cT 7, 2, .inr (.inr (.inr (.inr (va_up (va_up (fun _ => none) 0 (some (b + 88))) 1 (some (b + 90))))))), .inr (1, [.int 5, .int 2, .int 17, .ref (b + 89)]), .inl (cT 0, 16, .inl (fun _ => 0)), .inr (1, [.int 5, .int 2, .int 17, .ref (b + 91)]), .inl (cT 0, 16, .inl (fun _ => 0)), .inl (cT 0, 4, .inl (fun _ => 0)), .inl (cT 1, 600, .inl (fun _ => 0)), .inl (cT 2, 3, .inl (fun _ => 0)), .inl (cT 9, 4, .inr (.inr (.inr (.inr (va_up (va_up (va_up (va_up (fun _ => none) 0 (some (b + 96))) 1 (some (b + 98))) 2 (some (b + 100))) 3 (some (b + 102))))))), .inr (0, [.ref (b + 97)]), .inl (cT 0, 58, .inl (upd (fun _ => 0) 2 (-1))), .inr (4, [.int 24, .int 3, .int 3, .ref (b + 99)]), .inl (cT 0, 97, .inl (fun _ => 0)), .inr (3, [.int 8, .int 2, .int 12, .ref (b + 101)]), .inl (cT 0, 25, .inl (fun _ => 0)), .inr (1, [.int 5, .int 2, .int 17, .ref (b + 103)]), .inl (cT 0, 16, .inl (fun _ => 0)), .inr (4, [.int 24, .int 3, .int 3, .ref (b + 105)]), .inl (cT 0, 97, .inl (fun _ => 0))]) H := hP
  have hz : Array.size H = b + 106 := hY.2
  refine W.widen (k := 105) (n := 4476) (Nat.le_of_ble_eq_true rfl) (Nat.le_of_ble_eq_true rfl) ?_
  refine gb_putF (ci := 9) (v := (.ref (b + 104))) (ty := .object "GooseBorder$Night") (C := RX11) (T := TX11) (N := 10) hx hb hq i_X11 tyX11 tyX11_ok nmX11 hown hK hP (fun k _ => Nat.le_add_right b k) hS hz 0 rfl rfl 4 (by decide) (hq _ w_319) (fun _ h9 => h9) rfl hin rfl (by decide +kernel) rfl rfl (Nat.le_of_ble_eq_true rfl) dX11_init_116 (fun H locs hP hz hS => ?_)
  have hP : va_P D vwCl (gb_wl b [.inr (9, [.ref (b + 1), .ref (b + 24), .ref (b + 94), .ref (b + 95), .ref (b + 104), .null, .null, .null, .null, .int 0]), .inr (8, [.ref (b + 2), .ref (b + 7), .ref (b + 12), .ref (b + 17), .ref (b + 22), .ref (b + 23), .int 0, .int 0, .int (-1)]), .inl (cT 4, 2, .inr (.inr (.inr (.inr (va_up (va_up (fun _ => none) 0 (some (b + 3))) 1 (some (b + 5))))))), .inr (0, [.ref (b + 4)]), .inl (cT 0, 58, .inl (upd (fun _ => 0) 2 (-1))), .inr (0, [.ref (b + 6)]), .inl (cT 0, 58, .inl (upd (fun _ => 0) 2 (-1))), .inl (cT 5, 2, .inr (.inr (.inr (.inr (va_up (va_up (fun _ => none) 0 (some (b + 8))) 1 (some (b + 10))))))), .inr (4, [.int 24, .int 3, .int 3, .ref (b + 9)]), .inl (cT 0, 97, .inl (fun _ => 0)), .inr (4, [.int 24, .int 3, .int 3, .ref (b + 11)]), .inl (cT 0, 97, .inl (fun _ => 0)), .inl (cT 6, 2, .inr (.inr (.inr (.inr (va_up (va_up (fun _ => none) 0 (some (b + 13))) 1 (some (b + 15))))))), .inr (3, [.int 8, .int 2, .int 12, .ref (b + 14)]), .inl (cT 0, 25, .inl (fun _ => 0)), .inr (3, [.int 8, .int 2, .int 12, .ref (b + 16)]), .inl (cT 0, 25, .inl (fun _ => 0)), .inl (cT 7, 2, .inr (.inr (.inr (.inr (va_up (va_up (fun _ => none) 0 (some (b + 18))) 1 (some (b + 20))))))), .inr (1, [.int 5, .int 2, .int 17, .ref (b + 19)]), .inl (cT 0, 16, .inl (fun _ => 0)), .inr (1, [.int 5, .int 2, .int 17, .ref (b + 21)]), .inl (cT 0, 16, .inl (fun _ => 0)), .inl (cT 0, 4, .inl (fun _ => 0)), .inl (cT 1, 600, .inl (fun _ => 0)), .inl (cT 8, 3, .inr (.inr (.inr (.inr (va_up (va_up (va_up (fun _ => none) 0 (some (b + 25))) 1 (some (b + 48))) 2 (some (b + 71))))))), .inr (8, [.ref (b + 26), .ref (b + 31), .ref (b + 36), .ref (b + 41), .ref (b + 46), .ref (b + 47), .int 0, .int 0, .int (-1)]), .inl (cT 4, 2, .inr (.inr (.inr (.inr (va_up (va_up (fun _ => none) 0 (some (b + 27))) 1 (some (b + 29))))))), .inr (0, [.ref (b + 28)]), .inl (cT 0, 58, .inl (upd (fun _ => 0) 2 (-1))), .inr (0, [.ref (b + 30)]), .inl (cT 0, 58, .inl (upd (fun _ => 0) 2 (-1))), .inl (cT 5, 2, .inr (.inr (.inr (.inr (va_up (va_up (fun _ => none) 0 (some (b + 32))) 1 (some (b + 34))))))), .inr (4, [.int 24, .int 3, .int 3, .ref (b + 33)]), .inl (cT 0, 97, .inl (fun _ => 0)), .inr (4, [.int 24, .int 3, .int 3, .ref (b + 35)]), .inl (cT 0, 97, .inl (fun _ => 0)), .inl (cT 6, 2, .inr (.inr (.inr (.inr (va_up (va_up (fun _ => none) 0 (some (b + 37))) 1 (some (b + 39))))))), .inr (3, [.int 8, .int 2, .int 12, .ref (b + 38)]), .inl (cT 0, 25, .inl (fun _ => 0)), .inr (3, [.int 8, .int 2, .int 12, .ref (b + 40)]), .inl (cT 0, 25, .inl (fun _ => 0)), .inl (cT 7, 2, .inr (.inr (.inr (.inr (va_up (va_up (fun _ => none) 0 (some (b + 42))) 1 (some (b + 44))))))), .inr (1, [.int 5, .int 2, .int 17, .ref (b + 43)]), .inl (cT 0, 16, .inl (fun _ => 0)), .inr (1, [.int 5, .int 2, .int 17, .ref (b + 45)]), .inl (cT 0, 16, .inl (fun _ => 0)), .inl (cT 0, 4, .inl (fun _ => 0)), .inl (cT 1, 600, .inl (fun _ => 0)), .inr (8, [.ref (b + 49), .ref (b + 54), .ref (b + 59), .ref (b + 64), .ref (b + 69), .ref (b + 70), .int 0, .int 0, .int (-1)]), .inl (cT 4, 2, .inr (.inr (.inr (.inr (va_up (va_up (fun _ => none) 0 (some (b + 50))) 1 (some (b + 52))))))), .inr (0, [.ref (b + 51)]), .inl (cT 0, 58, .inl (upd (fun _ => 0) 2 (-1))), .inr (0, [.ref (b + 53)]), .inl (cT 0, 58, .inl (upd (fun _ => 0) 2 (-1))), .inl (cT 5, 2, .inr (.inr (.inr (.inr (va_up (va_up (fun _ => none) 0 (some (b + 55))) 1 (some (b + 57))))))), .inr (4, [.int 24, .int 3, .int 3, .ref (b + 56)]), .inl (cT 0, 97, .inl (fun _ => 0)), .inr (4, [.int 24, .int 3, .int 3, .ref (b + 58)]), .inl (cT 0, 97, .inl (fun _ => 0)), .inl (cT 6, 2, .inr (.inr (.inr (.inr (va_up (va_up (fun _ => none) 0 (some (b + 60))) 1 (some (b + 62))))))), .inr (3, [.int 8, .int 2, .int 12, .ref (b + 61)]), .inl (cT 0, 25, .inl (fun _ => 0)), .inr (3, [.int 8, .int 2, .int 12, .ref (b + 63)]), .inl (cT 0, 25, .inl (fun _ => 0)), .inl (cT 7, 2, .inr (.inr (.inr (.inr (va_up (va_up (fun _ => none) 0 (some (b + 65))) 1 (some (b + 67))))))), .inr (1, [.int 5, .int 2, .int 17, .ref (b + 66)]), .inl (cT 0, 16, .inl (fun _ => 0)), .inr (1, [.int 5, .int 2, .int 17, .ref (b + 68)]), .inl (cT 0, 16, .inl (fun _ => 0)), .inl (cT 0, 4, .inl (fun _ => 0)), .inl (cT 1, 600, .inl (fun _ => 0)), .inr (8, [.ref (b + 72), .ref (b + 77), .ref (b + 82), .ref (b + 87), .ref (b + 92), .ref (b + 93), .int 0, .int 0, .int (-1)]), .inl (cT 4, 2, .inr (.inr (.inr (.inr (va_up (va_up (fun _ => none) 0 (some (b + 73))) 1 (some (b + 75))))))), .inr (0, [.ref (b + 74)]), .inl (cT 0, 58, .inl (upd (fun _ => 0) 2 (-1))), .inr (0, [.ref (b + 76)]), .inl (cT 0, 58, .inl (upd (fun _ => 0) 2 (-1))), .inl (cT 5, 2, .inr (.inr (.inr (.inr (va_up (va_up (fun _ => none) 0 (some (b + 78))) 1 (some (b + 80))))))), .inr (4, [.int 24, .int 3, .int 3, .ref (b + 79)]), .inl (cT 0, 97, .inl (fun _ => 0)), .inr (4, [.int 24, .int 3, .int 3, .ref (b + 81)]), .inl (cT 0, 97, .inl (fun _ => 0)), .inl (cT 6, 2, .inr (.inr (.inr (.inr (va_up (va_up (fun _ => none) 0 (some (b + 83))) 1 (some (b + 85))))))), .inr (3, [.int 8, .int 2, .int 12, .ref (b + 84)]), .inl (cT 0, 25, .inl (fun _ => 0)), .inr (3, [.int 8, .int 2, .int 12, .ref (b + 86)]), .inl (cT 0, 25, .inl (fun _ => 0)), .inl (cT 7, 2, .inr (.inr (.inr (.inr (va_up (va_up (fun _ => none) 0 (some (b + 88))) 1 (some (b + 90))))))), .inr (1, [.int 5, .int 2, .int 17, .ref (b + 89)]), .inl (cT 0, 16, .inl (fun _ => 0)), .inr (1, [.int 5, .int 2, .int 17, .ref (b + 91)]), .inl (cT 0, 16, .inl (fun _ => 0)), .inl (cT 0, 4, .inl (fun _ => 0)), .inl (cT 1, 600, .inl (fun _ => 0)), .inl (cT 2, 3, .inl (fun _ => 0)), .inl (cT 9, 4, .inr (.inr (.inr (.inr (va_up (va_up (va_up (va_up (fun _ => none) 0 (some (b + 96))) 1 (some (b + 98))) 2 (some (b + 100))) 3 (some (b + 102))))))), .inr (0, [.ref (b + 97)]), .inl (cT 0, 58, .inl (upd (fun _ => 0) 2 (-1))), .inr (4, [.int 24, .int 3, .int 3, .ref (b + 99)]), .inl (cT 0, 97, .inl (fun _ => 0)), .inr (3, [.int 8, .int 2, .int 12, .ref (b + 101)]), .inl (cT 0, 25, .inl (fun _ => 0)), .inr (1, [.int 5, .int 2, .int 17, .ref (b + 103)]), .inl (cT 0, 16, .inl (fun _ => 0)), .inr (4, [.int 24, .int 3, .int 3, .ref (b + 105)]), .inl (cT 0, 97, .inl (fun _ => 0))]) H := hP
  refine lv_aload_n hx hb dX11_init_119 rfl (lv_at hl 0 rfl) ?_
  refine gb_new (ci := 6) (fs := [.null, .null, .int 0, .int 0, .int 0, .int 0]) (C := RX7) (T := TX7) (N := 6) hx hb hq i_X7 tyX7 tyX7_ok hown (hq _ w_161) (hq _ w_162) (hq _ w_10) hK hP hS 106 hz rfl rfl (fun j hj => by rcases (show j = 0 ∨ j = 1 ∨ j = 2 ∨ j = 3 ∨ j = 4 ∨ j = 5 by omega) with rfl | rfl | rfl | rfl | rfl | rfl <;> rfl) (Nat.le_of_ble_eq_true rfl) (Nat.le_of_ble_eq_true rfl) dX11_init_120 (fun H hP hz hS => ?_)
  have hP : va_P D vwCl (gb_wl b [.inr (9, [.ref (b + 1), .ref (b + 24), .ref (b + 94), .ref (b + 95), .ref (b + 104), .null, .null, .null, .null, .int 0]), .inr (8, [.ref (b + 2), .ref (b + 7), .ref (b + 12), .ref (b + 17), .ref (b + 22), .ref (b + 23), .int 0, .int 0, .int (-1)]), .inl (cT 4, 2, .inr (.inr (.inr (.inr (va_up (va_up (fun _ => none) 0 (some (b + 3))) 1 (some (b + 5))))))), .inr (0, [.ref (b + 4)]), .inl (cT 0, 58, .inl (upd (fun _ => 0) 2 (-1))), .inr (0, [.ref (b + 6)]), .inl (cT 0, 58, .inl (upd (fun _ => 0) 2 (-1))), .inl (cT 5, 2, .inr (.inr (.inr (.inr (va_up (va_up (fun _ => none) 0 (some (b + 8))) 1 (some (b + 10))))))), .inr (4, [.int 24, .int 3, .int 3, .ref (b + 9)]), .inl (cT 0, 97, .inl (fun _ => 0)), .inr (4, [.int 24, .int 3, .int 3, .ref (b + 11)]), .inl (cT 0, 97, .inl (fun _ => 0)), .inl (cT 6, 2, .inr (.inr (.inr (.inr (va_up (va_up (fun _ => none) 0 (some (b + 13))) 1 (some (b + 15))))))), .inr (3, [.int 8, .int 2, .int 12, .ref (b + 14)]), .inl (cT 0, 25, .inl (fun _ => 0)), .inr (3, [.int 8, .int 2, .int 12, .ref (b + 16)]), .inl (cT 0, 25, .inl (fun _ => 0)), .inl (cT 7, 2, .inr (.inr (.inr (.inr (va_up (va_up (fun _ => none) 0 (some (b + 18))) 1 (some (b + 20))))))), .inr (1, [.int 5, .int 2, .int 17, .ref (b + 19)]), .inl (cT 0, 16, .inl (fun _ => 0)), .inr (1, [.int 5, .int 2, .int 17, .ref (b + 21)]), .inl (cT 0, 16, .inl (fun _ => 0)), .inl (cT 0, 4, .inl (fun _ => 0)), .inl (cT 1, 600, .inl (fun _ => 0)), .inl (cT 8, 3, .inr (.inr (.inr (.inr (va_up (va_up (va_up (fun _ => none) 0 (some (b + 25))) 1 (some (b + 48))) 2 (some (b + 71))))))), .inr (8, [.ref (b + 26), .ref (b + 31), .ref (b + 36), .ref (b + 41), .ref (b + 46), .ref (b + 47), .int 0, .int 0, .int (-1)]), .inl (cT 4, 2, .inr (.inr (.inr (.inr (va_up (va_up (fun _ => none) 0 (some (b + 27))) 1 (some (b + 29))))))), .inr (0, [.ref (b + 28)]), .inl (cT 0, 58, .inl (upd (fun _ => 0) 2 (-1))), .inr (0, [.ref (b + 30)]), .inl (cT 0, 58, .inl (upd (fun _ => 0) 2 (-1))), .inl (cT 5, 2, .inr (.inr (.inr (.inr (va_up (va_up (fun _ => none) 0 (some (b + 32))) 1 (some (b + 34))))))), .inr (4, [.int 24, .int 3, .int 3, .ref (b + 33)]), .inl (cT 0, 97, .inl (fun _ => 0)), .inr (4, [.int 24, .int 3, .int 3, .ref (b + 35)]), .inl (cT 0, 97, .inl (fun _ => 0)), .inl (cT 6, 2, .inr (.inr (.inr (.inr (va_up (va_up (fun _ => none) 0 (some (b + 37))) 1 (some (b + 39))))))), .inr (3, [.int 8, .int 2, .int 12, .ref (b + 38)]), .inl (cT 0, 25, .inl (fun _ => 0)), .inr (3, [.int 8, .int 2, .int 12, .ref (b + 40)]), .inl (cT 0, 25, .inl (fun _ => 0)), .inl (cT 7, 2, .inr (.inr (.inr (.inr (va_up (va_up (fun _ => none) 0 (some (b + 42))) 1 (some (b + 44))))))), .inr (1, [.int 5, .int 2, .int 17, .ref (b + 43)]), .inl (cT 0, 16, .inl (fun _ => 0)), .inr (1, [.int 5, .int 2, .int 17, .ref (b + 45)]), .inl (cT 0, 16, .inl (fun _ => 0)), .inl (cT 0, 4, .inl (fun _ => 0)), .inl (cT 1, 600, .inl (fun _ => 0)), .inr (8, [.ref (b + 49), .ref (b + 54), .ref (b + 59), .ref (b + 64), .ref (b + 69), .ref (b + 70), .int 0, .int 0, .int (-1)]), .inl (cT 4, 2, .inr (.inr (.inr (.inr (va_up (va_up (fun _ => none) 0 (some (b + 50))) 1 (some (b + 52))))))), .inr (0, [.ref (b + 51)]), .inl (cT 0, 58, .inl (upd (fun _ => 0) 2 (-1))), .inr (0, [.ref (b + 53)]), .inl (cT 0, 58, .inl (upd (fun _ => 0) 2 (-1))), .inl (cT 5, 2, .inr (.inr (.inr (.inr (va_up (va_up (fun _ => none) 0 (some (b + 55))) 1 (some (b + 57))))))), .inr (4, [.int 24, .int 3, .int 3, .ref (b + 56)]), .inl (cT 0, 97, .inl (fun _ => 0)), .inr (4, [.int 24, .int 3, .int 3, .ref (b + 58)]), .inl (cT 0, 97, .inl (fun _ => 0)), .inl (cT 6, 2, .inr (.inr (.inr (.inr (va_up (va_up (fun _ => none) 0 (some (b + 60))) 1 (some (b + 62))))))), .inr (3, [.int 8, .int 2, .int 12, .ref (b + 61)]), .inl (cT 0, 25, .inl (fun _ => 0)), .inr (3, [.int 8, .int 2, .int 12, .ref (b + 63)]), .inl (cT 0, 25, .inl (fun _ => 0)), .inl (cT 7, 2, .inr (.inr (.inr (.inr (va_up (va_up (fun _ => none) 0 (some (b + 65))) 1 (some (b + 67))))))), .inr (1, [.int 5, .int 2, .int 17, .ref (b + 66)]), .inl (cT 0, 16, .inl (fun _ => 0)), .inr (1, [.int 5, .int 2, .int 17, .ref (b + 68)]), .inl (cT 0, 16, .inl (fun _ => 0)), .inl (cT 0, 4, .inl (fun _ => 0)), .inl (cT 1, 600, .inl (fun _ => 0)), .inr (8, [.ref (b + 72), .ref (b + 77), .ref (b + 82), .ref (b + 87), .ref (b + 92), .ref (b + 93), .int 0, .int 0, .int (-1)]), .inl (cT 4, 2, .inr (.inr (.inr (.inr (va_up (va_up (fun _ => none) 0 (some (b + 73))) 1 (some (b + 75))))))), .inr (0, [.ref (b + 74)]), .inl (cT 0, 58, .inl (upd (fun _ => 0) 2 (-1))), .inr (0, [.ref (b + 76)]), .inl (cT 0, 58, .inl (upd (fun _ => 0) 2 (-1))), .inl (cT 5, 2, .inr (.inr (.inr (.inr (va_up (va_up (fun _ => none) 0 (some (b + 78))) 1 (some (b + 80))))))), .inr (4, [.int 24, .int 3, .int 3, .ref (b + 79)]), .inl (cT 0, 97, .inl (fun _ => 0)), .inr (4, [.int 24, .int 3, .int 3, .ref (b + 81)]), .inl (cT 0, 97, .inl (fun _ => 0)), .inl (cT 6, 2, .inr (.inr (.inr (.inr (va_up (va_up (fun _ => none) 0 (some (b + 83))) 1 (some (b + 85))))))), .inr (3, [.int 8, .int 2, .int 12, .ref (b + 84)]), .inl (cT 0, 25, .inl (fun _ => 0)), .inr (3, [.int 8, .int 2, .int 12, .ref (b + 86)]), .inl (cT 0, 25, .inl (fun _ => 0)), .inl (cT 7, 2, .inr (.inr (.inr (.inr (va_up (va_up (fun _ => none) 0 (some (b + 88))) 1 (some (b + 90))))))), .inr (1, [.int 5, .int 2, .int 17, .ref (b + 89)]), .inl (cT 0, 16, .inl (fun _ => 0)), .inr (1, [.int 5, .int 2, .int 17, .ref (b + 91)]), .inl (cT 0, 16, .inl (fun _ => 0)), .inl (cT 0, 4, .inl (fun _ => 0)), .inl (cT 1, 600, .inl (fun _ => 0)), .inl (cT 2, 3, .inl (fun _ => 0)), .inl (cT 9, 4, .inr (.inr (.inr (.inr (va_up (va_up (va_up (va_up (fun _ => none) 0 (some (b + 96))) 1 (some (b + 98))) 2 (some (b + 100))) 3 (some (b + 102))))))), .inr (0, [.ref (b + 97)]), .inl (cT 0, 58, .inl (upd (fun _ => 0) 2 (-1))), .inr (4, [.int 24, .int 3, .int 3, .ref (b + 99)]), .inl (cT 0, 97, .inl (fun _ => 0)), .inr (3, [.int 8, .int 2, .int 12, .ref (b + 101)]), .inl (cT 0, 25, .inl (fun _ => 0)), .inr (1, [.int 5, .int 2, .int 17, .ref (b + 103)]), .inl (cT 0, 16, .inl (fun _ => 0)), .inr (4, [.int 24, .int 3, .int 3, .ref (b + 105)]), .inl (cT 0, 97, .inl (fun _ => 0)), .inr (6, [.null, .null, .int 0, .int 0, .int 0, .int 0])]) H := hP
  refine W.widen (k := 106) (n := 4482) (Nat.le_of_ble_eq_true rfl) (Nat.le_of_ble_eq_true rfl) ?_
  refine lv_dup hx hb dX11_init_123 rfl ?_
  have hPc := gb_drop hP 106 (suf := [.inr (6, [.null, .null, .int 0, .int 0, .int 0, .int 0])]) rfl rfl
  refine gb_callv (va_runIN (As := []) (rest := [.ref (b + 106), .ref (b + 0)]) ⟨hx, hb, hml, hown, hq⟩ (k_X7_init l D cT tt b1 (b + 106) (Nat.le_trans hb1 (Nat.le_add_right b 106))) (⟨va_cnB 0 hq (gb_gI w_165) rfl rfl rfl (hSt.2.1 _ gb_n163) (hq _ w_10) (by decide +kernel) ⟨Nat.le_of_ble_eq_true rfl, Nat.le_of_ble_eq_true rfl⟩, rfl, hq _ w_164⟩) (gb_preS hSt hS (fun q h => Nat.le_trans hb1 h) (show va_P D vwCl (gb_wl (b + 106) [.inr (6, [.null, .null, .int 0, .int 0, .int 0, .int 0])]) H ∧ Array.size H = b + 106 + 1 from ⟨hPc, hz⟩)) rfl rfl hl.1 rfl (lv_room (Nat.le_of_ble_eq_true rfl)) dX11_init_124 ⟨Nat.le_of_ble_eq_true rfl, Nat.le_of_ble_eq_true rfl⟩) hS (fun q h => Nat.le_trans (Nat.le_add_right b 106) h) (fun q h => Nat.le_trans (Nat.le_add_right b 106) h) (fun H locs hY hk hS => ?_)
  have hP := gb_glue hP 106 (pre := [.inr (9, [.ref (b + 1), .ref (b + 24), .ref (b + 94), .ref (b + 95), .ref (b + 104), .null, .null, .null, .null, .int 0]), .inr (8, [.ref (b + 2), .ref (b + 7), .ref (b + 12), .ref (b + 17), .ref (b + 22), .ref (b + 23), .int 0, .int 0, .int (-1)]), .inl (cT 4, 2, .inr (.inr (.inr (.inr (va_up (va_up (fun _ => none) 0 (some (b + 3))) 1 (some (b + 5))))))), .inr (0, [.ref (b + 4)]), .inl (cT 0, 58, .inl (upd (fun _ => 0) 2 (-1))), .inr (0, [.ref (b + 6)]), .inl (cT 0, 58, .inl (upd (fun _ => 0) 2 (-1))), .inl (cT 5, 2, .inr (.inr (.inr (.inr (va_up (va_up (fun _ => none) 0 (some (b + 8))) 1 (some (b + 10))))))), .inr (4, [.int 24, .int 3, .int 3, .ref (b + 9)]), .inl (cT 0, 97, .inl (fun _ => 0)), .inr (4, [.int 24, .int 3, .int 3, .ref (b + 11)]), .inl (cT 0, 97, .inl (fun _ => 0)), .inl (cT 6, 2, .inr (.inr (.inr (.inr (va_up (va_up (fun _ => none) 0 (some (b + 13))) 1 (some (b + 15))))))), .inr (3, [.int 8, .int 2, .int 12, .ref (b + 14)]), .inl (cT 0, 25, .inl (fun _ => 0)), .inr (3, [.int 8, .int 2, .int 12, .ref (b + 16)]), .inl (cT 0, 25, .inl (fun _ => 0)), .inl (cT 7, 2, .inr (.inr (.inr (.inr (va_up (va_up (fun _ => none) 0 (some (b + 18))) 1 (some (b + 20))))))), .inr (1, [.int 5, .int 2, .int 17, .ref (b + 19)]), .inl (cT 0, 16, .inl (fun _ => 0)), .inr (1, [.int 5, .int 2, .int 17, .ref (b + 21)]), .inl (cT 0, 16, .inl (fun _ => 0)), .inl (cT 0, 4, .inl (fun _ => 0)), .inl (cT 1, 600, .inl (fun _ => 0)), .inl (cT 8, 3, .inr (.inr (.inr (.inr (va_up (va_up (va_up (fun _ => none) 0 (some (b + 25))) 1 (some (b + 48))) 2 (some (b + 71))))))), .inr (8, [.ref (b + 26), .ref (b + 31), .ref (b + 36), .ref (b + 41), .ref (b + 46), .ref (b + 47), .int 0, .int 0, .int (-1)]), .inl (cT 4, 2, .inr (.inr (.inr (.inr (va_up (va_up (fun _ => none) 0 (some (b + 27))) 1 (some (b + 29))))))), .inr (0, [.ref (b + 28)]), .inl (cT 0, 58, .inl (upd (fun _ => 0) 2 (-1))), .inr (0, [.ref (b + 30)]), .inl (cT 0, 58, .inl (upd (fun _ => 0) 2 (-1))), .inl (cT 5, 2, .inr (.inr (.inr (.inr (va_up (va_up (fun _ => none) 0 (some (b + 32))) 1 (some (b + 34))))))), .inr (4, [.int 24, .int 3, .int 3, .ref (b + 33)]), .inl (cT 0, 97, .inl (fun _ => 0)), .inr (4, [.int 24, .int 3, .int 3, .ref (b + 35)]), .inl (cT 0, 97, .inl (fun _ => 0)), .inl (cT 6, 2, .inr (.inr (.inr (.inr (va_up (va_up (fun _ => none) 0 (some (b + 37))) 1 (some (b + 39))))))), .inr (3, [.int 8, .int 2, .int 12, .ref (b + 38)]), .inl (cT 0, 25, .inl (fun _ => 0)), .inr (3, [.int 8, .int 2, .int 12, .ref (b + 40)]), .inl (cT 0, 25, .inl (fun _ => 0)), .inl (cT 7, 2, .inr (.inr (.inr (.inr (va_up (va_up (fun _ => none) 0 (some (b + 42))) 1 (some (b + 44))))))), .inr (1, [.int 5, .int 2, .int 17, .ref (b + 43)]), .inl (cT 0, 16, .inl (fun _ => 0)), .inr (1, [.int 5, .int 2, .int 17, .ref (b + 45)]), .inl (cT 0, 16, .inl (fun _ => 0)), .inl (cT 0, 4, .inl (fun _ => 0)), .inl (cT 1, 600, .inl (fun _ => 0)), .inr (8, [.ref (b + 49), .ref (b + 54), .ref (b + 59), .ref (b + 64), .ref (b + 69), .ref (b + 70), .int 0, .int 0, .int (-1)]), .inl (cT 4, 2, .inr (.inr (.inr (.inr (va_up (va_up (fun _ => none) 0 (some (b + 50))) 1 (some (b + 52))))))), .inr (0, [.ref (b + 51)]), .inl (cT 0, 58, .inl (upd (fun _ => 0) 2 (-1))), .inr (0, [.ref (b + 53)]), .inl (cT 0, 58, .inl (upd (fun _ => 0) 2 (-1))), .inl (cT 5, 2, .inr (.inr (.inr (.inr (va_up (va_up (fun _ => none) 0 (some (b + 55))) 1 (some (b + 57))))))), .inr (4, [.int 24, .int 3, .int 3, .ref (b + 56)]), .inl (cT 0, 97, .inl (fun _ => 0)), .inr (4, [.int 24, .int 3, .int 3, .ref (b + 58)]), .inl (cT 0, 97, .inl (fun _ => 0)), .inl (cT 6, 2, .inr (.inr (.inr (.inr (va_up (va_up (fun _ => none) 0 (some (b + 60))) 1 (some (b + 62))))))), .inr (3, [.int 8, .int 2, .int 12, .ref (b + 61)]), .inl (cT 0, 25, .inl (fun _ => 0)), .inr (3, [.int 8, .int 2, .int 12, .ref (b + 63)]), .inl (cT 0, 25, .inl (fun _ => 0)), .inl (cT 7, 2, .inr (.inr (.inr (.inr (va_up (va_up (fun _ => none) 0 (some (b + 65))) 1 (some (b + 67))))))), .inr (1, [.int 5, .int 2, .int 17, .ref (b + 66)]), .inl (cT 0, 16, .inl (fun _ => 0)), .inr (1, [.int 5, .int 2, .int 17, .ref (b + 68)]), .inl (cT 0, 16, .inl (fun _ => 0)), .inl (cT 0, 4, .inl (fun _ => 0)), .inl (cT 1, 600, .inl (fun _ => 0)), .inr (8, [.ref (b + 72), .ref (b + 77), .ref (b + 82), .ref (b + 87), .ref (b + 92), .ref (b + 93), .int 0, .int 0, .int (-1)]), .inl (cT 4, 2, .inr (.inr (.inr (.inr (va_up (va_up (fun _ => none) 0 (some (b + 73))) 1 (some (b + 75))))))), .inr (0, [.ref (b + 74)]), .inl (cT 0, 58, .inl (upd (fun _ => 0) 2 (-1))), .inr (0, [.ref (b + 76)]), .inl (cT 0, 58, .inl (upd (fun _ => 0) 2 (-1))), .inl (cT 5, 2, .inr (.inr (.inr (.inr (va_up (va_up (fun _ => none) 0 (some (b + 78))) 1 (some (b + 80))))))), .inr (4, [.int 24, .int 3, .int 3, .ref (b + 79)]), .inl (cT 0, 97, .inl (fun _ => 0)), .inr (4, [.int 24, .int 3, .int 3, .ref (b + 81)]), .inl (cT 0, 97, .inl (fun _ => 0)), .inl (cT 6, 2, .inr (.inr (.inr (.inr (va_up (va_up (fun _ => none) 0 (some (b + 83))) 1 (some (b + 85))))))), .inr (3, [.int 8, .int 2, .int 12, .ref (b + 84)]), .inl (cT 0, 25, .inl (fun _ => 0)), .inr (3, [.int 8, .int 2, .int 12, .ref (b + 86)]), .inl (cT 0, 25, .inl (fun _ => 0)), .inl (cT 7, 2, .inr (.inr (.inr (.inr (va_up (va_up (fun _ => none) 0 (some (b + 88))) 1 (some (b + 90))))))), .inr (1, [.int 5, .int 2, .int 17, .ref (b + 89)]), .inl (cT 0, 16, .inl (fun _ => 0)), .inr (1, [.int 5, .int 2, .int 17, .ref (b + 91)]), .inl (cT 0, 16, .inl (fun _ => 0)), .inl (cT 0, 4, .inl (fun _ => 0)), .inl (cT 1, 600, .inl (fun _ => 0)), .inl (cT 2, 3, .inl (fun _ => 0)), .inl (cT 9, 4, .inr (.inr (.inr (.inr (va_up (va_up (va_up (va_up (fun _ => none) 0 (some (b + 96))) 1 (some (b + 98))) 2 (some (b + 100))) 3 (some (b + 102))))))), .inr (0, [.ref (b + 97)]), .inl (cT 0, 58, .inl (upd (fun _ => 0) 2 (-1))), .inr (4, [.int 24, .int 3, .int 3, .ref (b + 99)]), .inl (cT 0, 97, .inl (fun _ => 0)), .inr (3, [.int 8, .int 2, .int 12, .ref (b + 101)]), .inl (cT 0, 25, .inl (fun _ => 0)), .inr (1, [.int 5, .int 2, .int 17, .ref (b + 103)]), .inl (cT 0, 16, .inl (fun _ => 0)), .inr (4, [.int 24, .int 3, .int 3, .ref (b + 105)]), .inl (cT 0, 97, .inl (fun _ => 0))]) rfl rfl hk hY.1
  have hP : va_P D vwCl (gb_wl b [.inr (9, [.ref (b + 1), .ref (b + 24), .ref (b + 94), .ref (b + 95), .ref (b + 104), .null, .null, .null, .null, .int 0]), .inr (8, [.ref (b + 2), .ref (b + 7), .ref (b + 12), .ref (b + 17), .ref (b + 22), .ref (b + 23), .int 0, .int 0, .int (-1)]), .inl (cT 4, 2, .inr (.inr (.inr (.inr (va_up (va_up (fun _ => none) 0 (some (b + 3))) 1 (some (b + 5))))))), .inr (0, [.ref (b + 4)]), .inl (cT 0, 58, .inl (upd (fun _ => 0) 2 (-1))), .inr (0, [.ref (b + 6)]), .inl (cT 0, 58, .inl (upd (fun _ => 0) 2 (-1))), .inl (cT 5, 2, .inr (.inr (.inr (.inr (va_up (va_up (fun _ => none) 0 (some (b + 8))) 1 (some (b + 10))))))), .inr (4, [.int 24, .int 3, .int 3, .ref (b + 9)]), .inl (cT 0, 97, .inl (fun _ => 0)), .inr (4, [.int 24, .int 3, .int 3, .ref (b + 11)]), .inl (cT 0, 97, .inl (fun _ => 0)), .inl (cT 6, 2, .inr (.inr (.inr (.inr (va_up (va_up (fun _ => none) 0 (some (b + 13))) 1 (some (b + 15))))))), .inr (3, [.int 8, .int 2, .int 12, .ref (b + 14)]), .inl (cT 0, 25, .inl (fun _ => 0)), .inr (3, [.int 8, .int 2, .int 12, .ref (b + 16)]), .inl (cT 0, 25, .inl (fun _ => 0)), .inl (cT 7, 2, .inr (.inr (.inr (.inr (va_up (va_up (fun _ => none) 0 (some (b + 18))) 1 (some (b + 20))))))), .inr (1, [.int 5, .int 2, .int 17, .ref (b + 19)]), .inl (cT 0, 16, .inl (fun _ => 0)), .inr (1, [.int 5, .int 2, .int 17, .ref (b + 21)]), .inl (cT 0, 16, .inl (fun _ => 0)), .inl (cT 0, 4, .inl (fun _ => 0)), .inl (cT 1, 600, .inl (fun _ => 0)), .inl (cT 8, 3, .inr (.inr (.inr (.inr (va_up (va_up (va_up (fun _ => none) 0 (some (b + 25))) 1 (some (b + 48))) 2 (some (b + 71))))))), .inr (8, [.ref (b + 26), .ref (b + 31), .ref (b + 36), .ref (b + 41), .ref (b + 46), .ref (b + 47), .int 0, .int 0, .int (-1)]), .inl (cT 4, 2, .inr (.inr (.inr (.inr (va_up (va_up (fun _ => none) 0 (some (b + 27))) 1 (some (b + 29))))))), .inr (0, [.ref (b + 28)]), .inl (cT 0, 58, .inl (upd (fun _ => 0) 2 (-1))), .inr (0, [.ref (b + 30)]), .inl (cT 0, 58, .inl (upd (fun _ => 0) 2 (-1))), .inl (cT 5, 2, .inr (.inr (.inr (.inr (va_up (va_up (fun _ => none) 0 (some (b + 32))) 1 (some (b + 34))))))), .inr (4, [.int 24, .int 3, .int 3, .ref (b + 33)]), .inl (cT 0, 97, .inl (fun _ => 0)), .inr (4, [.int 24, .int 3, .int 3, .ref (b + 35)]), .inl (cT 0, 97, .inl (fun _ => 0)), .inl (cT 6, 2, .inr (.inr (.inr (.inr (va_up (va_up (fun _ => none) 0 (some (b + 37))) 1 (some (b + 39))))))), .inr (3, [.int 8, .int 2, .int 12, .ref (b + 38)]), .inl (cT 0, 25, .inl (fun _ => 0)), .inr (3, [.int 8, .int 2, .int 12, .ref (b + 40)]), .inl (cT 0, 25, .inl (fun _ => 0)), .inl (cT 7, 2, .inr (.inr (.inr (.inr (va_up (va_up (fun _ => none) 0 (some (b + 42))) 1 (some (b + 44))))))), .inr (1, [.int 5, .int 2, .int 17, .ref (b + 43)]), .inl (cT 0, 16, .inl (fun _ => 0)), .inr (1, [.int 5, .int 2, .int 17, .ref (b + 45)]), .inl (cT 0, 16, .inl (fun _ => 0)), .inl (cT 0, 4, .inl (fun _ => 0)), .inl (cT 1, 600, .inl (fun _ => 0)), .inr (8, [.ref (b + 49), .ref (b + 54), .ref (b + 59), .ref (b + 64), .ref (b + 69), .ref (b + 70), .int 0, .int 0, .int (-1)]), .inl (cT 4, 2, .inr (.inr (.inr (.inr (va_up (va_up (fun _ => none) 0 (some (b + 50))) 1 (some (b + 52))))))), .inr (0, [.ref (b + 51)]), .inl (cT 0, 58, .inl (upd (fun _ => 0) 2 (-1))), .inr (0, [.ref (b + 53)]), .inl (cT 0, 58, .inl (upd (fun _ => 0) 2 (-1))), .inl (cT 5, 2, .inr (.inr (.inr (.inr (va_up (va_up (fun _ => none) 0 (some (b + 55))) 1 (some (b + 57))))))), .inr (4, [.int 24, .int 3, .int 3, .ref (b + 56)]), .inl (cT 0, 97, .inl (fun _ => 0)), .inr (4, [.int 24, .int 3, .int 3, .ref (b + 58)]), .inl (cT 0, 97, .inl (fun _ => 0)), .inl (cT 6, 2, .inr (.inr (.inr (.inr (va_up (va_up (fun _ => none) 0 (some (b + 60))) 1 (some (b + 62))))))), .inr (3, [.int 8, .int 2, .int 12, .ref (b + 61)]), .inl (cT 0, 25, .inl (fun _ => 0)), .inr (3, [.int 8, .int 2, .int 12, .ref (b + 63)]), .inl (cT 0, 25, .inl (fun _ => 0)), .inl (cT 7, 2, .inr (.inr (.inr (.inr (va_up (va_up (fun _ => none) 0 (some (b + 65))) 1 (some (b + 67))))))), .inr (1, [.int 5, .int 2, .int 17, .ref (b + 66)]), .inl (cT 0, 16, .inl (fun _ => 0)), .inr (1, [.int 5, .int 2, .int 17, .ref (b + 68)]), .inl (cT 0, 16, .inl (fun _ => 0)), .inl (cT 0, 4, .inl (fun _ => 0)), .inl (cT 1, 600, .inl (fun _ => 0)), .inr (8, [.ref (b + 72), .ref (b + 77), .ref (b + 82), .ref (b + 87), .ref (b + 92), .ref (b + 93), .int 0, .int 0, .int (-1)]), .inl (cT 4, 2, .inr (.inr (.inr (.inr (va_up (va_up (fun _ => none) 0 (some (b + 73))) 1 (some (b + 75))))))), .inr (0, [.ref (b + 74)]), .inl (cT 0, 58, .inl (upd (fun _ => 0) 2 (-1))), .inr (0, [.ref (b + 76)]), .inl (cT 0, 58, .inl (upd (fun _ => 0) 2 (-1))), .inl (cT 5, 2, .inr (.inr (.inr (.inr (va_up (va_up (fun _ => none) 0 (some (b + 78))) 1 (some (b + 80))))))), .inr (4, [.int 24, .int 3, .int 3, .ref (b + 79)]), .inl (cT 0, 97, .inl (fun _ => 0)), .inr (4, [.int 24, .int 3, .int 3, .ref (b + 81)]), .inl (cT 0, 97, .inl (fun _ => 0)), .inl (cT 6, 2, .inr (.inr (.inr (.inr (va_up (va_up (fun _ => none) 0 (some (b + 83))) 1 (some (b + 85))))))), .inr (3, [.int 8, .int 2, .int 12, .ref (b + 84)]), .inl (cT 0, 25, .inl (fun _ => 0)), .inr (3, [.int 8, .int 2, .int 12, .ref (b + 86)]), .inl (cT 0, 25, .inl (fun _ => 0)), .inl (cT 7, 2, .inr (.inr (.inr (.inr (va_up (va_up (fun _ => none) 0 (some (b + 88))) 1 (some (b + 90))))))), .inr (1, [.int 5, .int 2, .int 17, .ref (b + 89)]), .inl (cT 0, 16, .inl (fun _ => 0)), .inr (1, [.int 5, .int 2, .int 17, .ref (b + 91)]), .inl (cT 0, 16, .inl (fun _ => 0)), .inl (cT 0, 4, .inl (fun _ => 0)), .inl (cT 1, 600, .inl (fun _ => 0)), .inl (cT 2, 3, .inl (fun _ => 0)), .inl (cT 9, 4, .inr (.inr (.inr (.inr (va_up (va_up (va_up (va_up (fun _ => none) 0 (some (b + 96))) 1 (some (b + 98))) 2 (some (b + 100))) 3 (some (b + 102))))))), .inr (0, [.ref (b + 97)]), .inl (cT 0, 58, .inl (upd (fun _ => 0) 2 (-1))), .inr (4, [.int 24, .int 3, .int 3, .ref (b + 99)]), .inl (cT 0, 97, .inl (fun _ => 0)), .inr (3, [.int 8, .int 2, .int 12, .ref (b + 101)]), .inl (cT 0, 25, .inl (fun _ => 0)), .inr (1, [.int 5, .int 2, .int 17, .ref (b + 103)]), .inl (cT 0, 16, .inl (fun _ => 0)), .inr (4, [.int 24, .int 3, .int 3, .ref (b + 105)]), .inl (cT 0, 97, .inl (fun _ => 0)), .inr (6, [.ref (b + 107), .ref (b + 108), .int 0, .int 0, .int 0, .int 0]), .inl (cT 0, 5, .inl (fun _ => 0)), .inl (cT 1, 0, .inl (fun _ => 0))]) H := hP
  have hz : Array.size H = b + 109 := hY.2
  refine W.widen (k := 108) (n := 4487) (Nat.le_of_ble_eq_true rfl) (Nat.le_of_ble_eq_true rfl) ?_
  refine gb_putF (ci := 9) (v := (.ref (b + 106))) (ty := .object "GooseBorder$Reader") (C := RX11) (T := TX11) (N := 10) hx hb hq i_X11 tyX11 tyX11_ok nmX11 hown hK hP (fun k _ => Nat.le_add_right b k) hS hz 0 rfl rfl 5 (by decide) (hq _ w_320) (fun _ h9 => h9) rfl hin rfl (by decide +kernel) rfl rfl (Nat.le_of_ble_eq_true rfl) dX11_init_127 (fun H locs hP hz hS => ?_)
  have hP : va_P D vwCl (gb_wl b [.inr (9, [.ref (b + 1), .ref (b + 24), .ref (b + 94), .ref (b + 95), .ref (b + 104), .ref (b + 106), .null, .null, .null, .int 0]), .inr (8, [.ref (b + 2), .ref (b + 7), .ref (b + 12), .ref (b + 17), .ref (b + 22), .ref (b + 23), .int 0, .int 0, .int (-1)]), .inl (cT 4, 2, .inr (.inr (.inr (.inr (va_up (va_up (fun _ => none) 0 (some (b + 3))) 1 (some (b + 5))))))), .inr (0, [.ref (b + 4)]), .inl (cT 0, 58, .inl (upd (fun _ => 0) 2 (-1))), .inr (0, [.ref (b + 6)]), .inl (cT 0, 58, .inl (upd (fun _ => 0) 2 (-1))), .inl (cT 5, 2, .inr (.inr (.inr (.inr (va_up (va_up (fun _ => none) 0 (some (b + 8))) 1 (some (b + 10))))))), .inr (4, [.int 24, .int 3, .int 3, .ref (b + 9)]), .inl (cT 0, 97, .inl (fun _ => 0)), .inr (4, [.int 24, .int 3, .int 3, .ref (b + 11)]), .inl (cT 0, 97, .inl (fun _ => 0)), .inl (cT 6, 2, .inr (.inr (.inr (.inr (va_up (va_up (fun _ => none) 0 (some (b + 13))) 1 (some (b + 15))))))), .inr (3, [.int 8, .int 2, .int 12, .ref (b + 14)]), .inl (cT 0, 25, .inl (fun _ => 0)), .inr (3, [.int 8, .int 2, .int 12, .ref (b + 16)]), .inl (cT 0, 25, .inl (fun _ => 0)), .inl (cT 7, 2, .inr (.inr (.inr (.inr (va_up (va_up (fun _ => none) 0 (some (b + 18))) 1 (some (b + 20))))))), .inr (1, [.int 5, .int 2, .int 17, .ref (b + 19)]), .inl (cT 0, 16, .inl (fun _ => 0)), .inr (1, [.int 5, .int 2, .int 17, .ref (b + 21)]), .inl (cT 0, 16, .inl (fun _ => 0)), .inl (cT 0, 4, .inl (fun _ => 0)), .inl (cT 1, 600, .inl (fun _ => 0)), .inl (cT 8, 3, .inr (.inr (.inr (.inr (va_up (va_up (va_up (fun _ => none) 0 (some (b + 25))) 1 (some (b + 48))) 2 (some (b + 71))))))), .inr (8, [.ref (b + 26), .ref (b + 31), .ref (b + 36), .ref (b + 41), .ref (b + 46), .ref (b + 47), .int 0, .int 0, .int (-1)]), .inl (cT 4, 2, .inr (.inr (.inr (.inr (va_up (va_up (fun _ => none) 0 (some (b + 27))) 1 (some (b + 29))))))), .inr (0, [.ref (b + 28)]), .inl (cT 0, 58, .inl (upd (fun _ => 0) 2 (-1))), .inr (0, [.ref (b + 30)]), .inl (cT 0, 58, .inl (upd (fun _ => 0) 2 (-1))), .inl (cT 5, 2, .inr (.inr (.inr (.inr (va_up (va_up (fun _ => none) 0 (some (b + 32))) 1 (some (b + 34))))))), .inr (4, [.int 24, .int 3, .int 3, .ref (b + 33)]), .inl (cT 0, 97, .inl (fun _ => 0)), .inr (4, [.int 24, .int 3, .int 3, .ref (b + 35)]), .inl (cT 0, 97, .inl (fun _ => 0)), .inl (cT 6, 2, .inr (.inr (.inr (.inr (va_up (va_up (fun _ => none) 0 (some (b + 37))) 1 (some (b + 39))))))), .inr (3, [.int 8, .int 2, .int 12, .ref (b + 38)]), .inl (cT 0, 25, .inl (fun _ => 0)), .inr (3, [.int 8, .int 2, .int 12, .ref (b + 40)]), .inl (cT 0, 25, .inl (fun _ => 0)), .inl (cT 7, 2, .inr (.inr (.inr (.inr (va_up (va_up (fun _ => none) 0 (some (b + 42))) 1 (some (b + 44))))))), .inr (1, [.int 5, .int 2, .int 17, .ref (b + 43)]), .inl (cT 0, 16, .inl (fun _ => 0)), .inr (1, [.int 5, .int 2, .int 17, .ref (b + 45)]), .inl (cT 0, 16, .inl (fun _ => 0)), .inl (cT 0, 4, .inl (fun _ => 0)), .inl (cT 1, 600, .inl (fun _ => 0)), .inr (8, [.ref (b + 49), .ref (b + 54), .ref (b + 59), .ref (b + 64), .ref (b + 69), .ref (b + 70), .int 0, .int 0, .int (-1)]), .inl (cT 4, 2, .inr (.inr (.inr (.inr (va_up (va_up (fun _ => none) 0 (some (b + 50))) 1 (some (b + 52))))))), .inr (0, [.ref (b + 51)]), .inl (cT 0, 58, .inl (upd (fun _ => 0) 2 (-1))), .inr (0, [.ref (b + 53)]), .inl (cT 0, 58, .inl (upd (fun _ => 0) 2 (-1))), .inl (cT 5, 2, .inr (.inr (.inr (.inr (va_up (va_up (fun _ => none) 0 (some (b + 55))) 1 (some (b + 57))))))), .inr (4, [.int 24, .int 3, .int 3, .ref (b + 56)]), .inl (cT 0, 97, .inl (fun _ => 0)), .inr (4, [.int 24, .int 3, .int 3, .ref (b + 58)]), .inl (cT 0, 97, .inl (fun _ => 0)), .inl (cT 6, 2, .inr (.inr (.inr (.inr (va_up (va_up (fun _ => none) 0 (some (b + 60))) 1 (some (b + 62))))))), .inr (3, [.int 8, .int 2, .int 12, .ref (b + 61)]), .inl (cT 0, 25, .inl (fun _ => 0)), .inr (3, [.int 8, .int 2, .int 12, .ref (b + 63)]), .inl (cT 0, 25, .inl (fun _ => 0)), .inl (cT 7, 2, .inr (.inr (.inr (.inr (va_up (va_up (fun _ => none) 0 (some (b + 65))) 1 (some (b + 67))))))), .inr (1, [.int 5, .int 2, .int 17, .ref (b + 66)]), .inl (cT 0, 16, .inl (fun _ => 0)), .inr (1, [.int 5, .int 2, .int 17, .ref (b + 68)]), .inl (cT 0, 16, .inl (fun _ => 0)), .inl (cT 0, 4, .inl (fun _ => 0)), .inl (cT 1, 600, .inl (fun _ => 0)), .inr (8, [.ref (b + 72), .ref (b + 77), .ref (b + 82), .ref (b + 87), .ref (b + 92), .ref (b + 93), .int 0, .int 0, .int (-1)]), .inl (cT 4, 2, .inr (.inr (.inr (.inr (va_up (va_up (fun _ => none) 0 (some (b + 73))) 1 (some (b + 75))))))), .inr (0, [.ref (b + 74)]), .inl (cT 0, 58, .inl (upd (fun _ => 0) 2 (-1))), .inr (0, [.ref (b + 76)]), .inl (cT 0, 58, .inl (upd (fun _ => 0) 2 (-1))), .inl (cT 5, 2, .inr (.inr (.inr (.inr (va_up (va_up (fun _ => none) 0 (some (b + 78))) 1 (some (b + 80))))))), .inr (4, [.int 24, .int 3, .int 3, .ref (b + 79)]), .inl (cT 0, 97, .inl (fun _ => 0)), .inr (4, [.int 24, .int 3, .int 3, .ref (b + 81)]), .inl (cT 0, 97, .inl (fun _ => 0)), .inl (cT 6, 2, .inr (.inr (.inr (.inr (va_up (va_up (fun _ => none) 0 (some (b + 83))) 1 (some (b + 85))))))), .inr (3, [.int 8, .int 2, .int 12, .ref (b + 84)]), .inl (cT 0, 25, .inl (fun _ => 0)), .inr (3, [.int 8, .int 2, .int 12, .ref (b + 86)]), .inl (cT 0, 25, .inl (fun _ => 0)), .inl (cT 7, 2, .inr (.inr (.inr (.inr (va_up (va_up (fun _ => none) 0 (some (b + 88))) 1 (some (b + 90))))))), .inr (1, [.int 5, .int 2, .int 17, .ref (b + 89)]), .inl (cT 0, 16, .inl (fun _ => 0)), .inr (1, [.int 5, .int 2, .int 17, .ref (b + 91)]), .inl (cT 0, 16, .inl (fun _ => 0)), .inl (cT 0, 4, .inl (fun _ => 0)), .inl (cT 1, 600, .inl (fun _ => 0)), .inl (cT 2, 3, .inl (fun _ => 0)), .inl (cT 9, 4, .inr (.inr (.inr (.inr (va_up (va_up (va_up (va_up (fun _ => none) 0 (some (b + 96))) 1 (some (b + 98))) 2 (some (b + 100))) 3 (some (b + 102))))))), .inr (0, [.ref (b + 97)]), .inl (cT 0, 58, .inl (upd (fun _ => 0) 2 (-1))), .inr (4, [.int 24, .int 3, .int 3, .ref (b + 99)]), .inl (cT 0, 97, .inl (fun _ => 0)), .inr (3, [.int 8, .int 2, .int 12, .ref (b + 101)]), .inl (cT 0, 25, .inl (fun _ => 0)), .inr (1, [.int 5, .int 2, .int 17, .ref (b + 103)]), .inl (cT 0, 16, .inl (fun _ => 0)), .inr (4, [.int 24, .int 3, .int 3, .ref (b + 105)]), .inl (cT 0, 97, .inl (fun _ => 0)), .inr (6, [.ref (b + 107), .ref (b + 108), .int 0, .int 0, .int 0, .int 0]), .inl (cT 0, 5, .inl (fun _ => 0)), .inl (cT 1, 0, .inl (fun _ => 0))]) H := hP
  refine lv_aload_n hx hb dX11_init_130 rfl (lv_at hl 0 rfl) ?_
  refine gb_new (ci := 5) (fs := [.null, .null, .null, .null, .null, .null, .null, .null, .null, .int 0, .int 0, .int 0]) (C := RX6) (T := TX6) (N := 12) hx hb hq i_X6 tyX6 tyX6_ok hown (hq _ w_189) (hq _ w_190) (hq _ w_11) hK hP hS 109 hz rfl rfl (fun j hj => by rcases (show j = 0 ∨ j = 1 ∨ j = 2 ∨ j = 3 ∨ j = 4 ∨ j = 5 ∨ j = 6 ∨ j = 7 ∨ j = 8 ∨ j = 9 ∨ j = 10 ∨ j = 11 by omega) with rfl | rfl | rfl | rfl | rfl | rfl | rfl | rfl | rfl | rfl | rfl | rfl <;> rfl) (Nat.le_of_ble_eq_true rfl) (Nat.le_of_ble_eq_true rfl) dX11_init_131 (fun H hP hz hS => ?_)
  have hP : va_P D vwCl (gb_wl b [.inr (9, [.ref (b + 1), .ref (b + 24), .ref (b + 94), .ref (b + 95), .ref (b + 104), .ref (b + 106), .null, .null, .null, .int 0]), .inr (8, [.ref (b + 2), .ref (b + 7), .ref (b + 12), .ref (b + 17), .ref (b + 22), .ref (b + 23), .int 0, .int 0, .int (-1)]), .inl (cT 4, 2, .inr (.inr (.inr (.inr (va_up (va_up (fun _ => none) 0 (some (b + 3))) 1 (some (b + 5))))))), .inr (0, [.ref (b + 4)]), .inl (cT 0, 58, .inl (upd (fun _ => 0) 2 (-1))), .inr (0, [.ref (b + 6)]), .inl (cT 0, 58, .inl (upd (fun _ => 0) 2 (-1))), .inl (cT 5, 2, .inr (.inr (.inr (.inr (va_up (va_up (fun _ => none) 0 (some (b + 8))) 1 (some (b + 10))))))), .inr (4, [.int 24, .int 3, .int 3, .ref (b + 9)]), .inl (cT 0, 97, .inl (fun _ => 0)), .inr (4, [.int 24, .int 3, .int 3, .ref (b + 11)]), .inl (cT 0, 97, .inl (fun _ => 0)), .inl (cT 6, 2, .inr (.inr (.inr (.inr (va_up (va_up (fun _ => none) 0 (some (b + 13))) 1 (some (b + 15))))))), .inr (3, [.int 8, .int 2, .int 12, .ref (b + 14)]), .inl (cT 0, 25, .inl (fun _ => 0)), .inr (3, [.int 8, .int 2, .int 12, .ref (b + 16)]), .inl (cT 0, 25, .inl (fun _ => 0)), .inl (cT 7, 2, .inr (.inr (.inr (.inr (va_up (va_up (fun _ => none) 0 (some (b + 18))) 1 (some (b + 20))))))), .inr (1, [.int 5, .int 2, .int 17, .ref (b + 19)]), .inl (cT 0, 16, .inl (fun _ => 0)), .inr (1, [.int 5, .int 2, .int 17, .ref (b + 21)]), .inl (cT 0, 16, .inl (fun _ => 0)), .inl (cT 0, 4, .inl (fun _ => 0)), .inl (cT 1, 600, .inl (fun _ => 0)), .inl (cT 8, 3, .inr (.inr (.inr (.inr (va_up (va_up (va_up (fun _ => none) 0 (some (b + 25))) 1 (some (b + 48))) 2 (some (b + 71))))))), .inr (8, [.ref (b + 26), .ref (b + 31), .ref (b + 36), .ref (b + 41), .ref (b + 46), .ref (b + 47), .int 0, .int 0, .int (-1)]), .inl (cT 4, 2, .inr (.inr (.inr (.inr (va_up (va_up (fun _ => none) 0 (some (b + 27))) 1 (some (b + 29))))))), .inr (0, [.ref (b + 28)]), .inl (cT 0, 58, .inl (upd (fun _ => 0) 2 (-1))), .inr (0, [.ref (b + 30)]), .inl (cT 0, 58, .inl (upd (fun _ => 0) 2 (-1))), .inl (cT 5, 2, .inr (.inr (.inr (.inr (va_up (va_up (fun _ => none) 0 (some (b + 32))) 1 (some (b + 34))))))), .inr (4, [.int 24, .int 3, .int 3, .ref (b + 33)]), .inl (cT 0, 97, .inl (fun _ => 0)), .inr (4, [.int 24, .int 3, .int 3, .ref (b + 35)]), .inl (cT 0, 97, .inl (fun _ => 0)), .inl (cT 6, 2, .inr (.inr (.inr (.inr (va_up (va_up (fun _ => none) 0 (some (b + 37))) 1 (some (b + 39))))))), .inr (3, [.int 8, .int 2, .int 12, .ref (b + 38)]), .inl (cT 0, 25, .inl (fun _ => 0)), .inr (3, [.int 8, .int 2, .int 12, .ref (b + 40)]), .inl (cT 0, 25, .inl (fun _ => 0)), .inl (cT 7, 2, .inr (.inr (.inr (.inr (va_up (va_up (fun _ => none) 0 (some (b + 42))) 1 (some (b + 44))))))), .inr (1, [.int 5, .int 2, .int 17, .ref (b + 43)]), .inl (cT 0, 16, .inl (fun _ => 0)), .inr (1, [.int 5, .int 2, .int 17, .ref (b + 45)]), .inl (cT 0, 16, .inl (fun _ => 0)), .inl (cT 0, 4, .inl (fun _ => 0)), .inl (cT 1, 600, .inl (fun _ => 0)), .inr (8, [.ref (b + 49), .ref (b + 54), .ref (b + 59), .ref (b + 64), .ref (b + 69), .ref (b + 70), .int 0, .int 0, .int (-1)]), .inl (cT 4, 2, .inr (.inr (.inr (.inr (va_up (va_up (fun _ => none) 0 (some (b + 50))) 1 (some (b + 52))))))), .inr (0, [.ref (b + 51)]), .inl (cT 0, 58, .inl (upd (fun _ => 0) 2 (-1))), .inr (0, [.ref (b + 53)]), .inl (cT 0, 58, .inl (upd (fun _ => 0) 2 (-1))), .inl (cT 5, 2, .inr (.inr (.inr (.inr (va_up (va_up (fun _ => none) 0 (some (b + 55))) 1 (some (b + 57))))))), .inr (4, [.int 24, .int 3, .int 3, .ref (b + 56)]), .inl (cT 0, 97, .inl (fun _ => 0)), .inr (4, [.int 24, .int 3, .int 3, .ref (b + 58)]), .inl (cT 0, 97, .inl (fun _ => 0)), .inl (cT 6, 2, .inr (.inr (.inr (.inr (va_up (va_up (fun _ => none) 0 (some (b + 60))) 1 (some (b + 62))))))), .inr (3, [.int 8, .int 2, .int 12, .ref (b + 61)]), .inl (cT 0, 25, .inl (fun _ => 0)), .inr (3, [.int 8, .int 2, .int 12, .ref (b + 63)]), .inl (cT 0, 25, .inl (fun _ => 0)), .inl (cT 7, 2, .inr (.inr (.inr (.inr (va_up (va_up (fun _ => none) 0 (some (b + 65))) 1 (some (b + 67))))))), .inr (1, [.int 5, .int 2, .int 17, .ref (b + 66)]), .inl (cT 0, 16, .inl (fun _ => 0)), .inr (1, [.int 5, .int 2, .int 17, .ref (b + 68)]), .inl (cT 0, 16, .inl (fun _ => 0)), .inl (cT 0, 4, .inl (fun _ => 0)), .inl (cT 1, 600, .inl (fun _ => 0)), .inr (8, [.ref (b + 72), .ref (b + 77), .ref (b + 82), .ref (b + 87), .ref (b + 92), .ref (b + 93), .int 0, .int 0, .int (-1)]), .inl (cT 4, 2, .inr (.inr (.inr (.inr (va_up (va_up (fun _ => none) 0 (some (b + 73))) 1 (some (b + 75))))))), .inr (0, [.ref (b + 74)]), .inl (cT 0, 58, .inl (upd (fun _ => 0) 2 (-1))), .inr (0, [.ref (b + 76)]), .inl (cT 0, 58, .inl (upd (fun _ => 0) 2 (-1))), .inl (cT 5, 2, .inr (.inr (.inr (.inr (va_up (va_up (fun _ => none) 0 (some (b + 78))) 1 (some (b + 80))))))), .inr (4, [.int 24, .int 3, .int 3, .ref (b + 79)]), .inl (cT 0, 97, .inl (fun _ => 0)), .inr (4, [.int 24, .int 3, .int 3, .ref (b + 81)]), .inl (cT 0, 97, .inl (fun _ => 0)), .inl (cT 6, 2, .inr (.inr (.inr (.inr (va_up (va_up (fun _ => none) 0 (some (b + 83))) 1 (some (b + 85))))))), .inr (3, [.int 8, .int 2, .int 12, .ref (b + 84)]), .inl (cT 0, 25, .inl (fun _ => 0)), .inr (3, [.int 8, .int 2, .int 12, .ref (b + 86)]), .inl (cT 0, 25, .inl (fun _ => 0)), .inl (cT 7, 2, .inr (.inr (.inr (.inr (va_up (va_up (fun _ => none) 0 (some (b + 88))) 1 (some (b + 90))))))), .inr (1, [.int 5, .int 2, .int 17, .ref (b + 89)]), .inl (cT 0, 16, .inl (fun _ => 0)), .inr (1, [.int 5, .int 2, .int 17, .ref (b + 91)]), .inl (cT 0, 16, .inl (fun _ => 0)), .inl (cT 0, 4, .inl (fun _ => 0)), .inl (cT 1, 600, .inl (fun _ => 0)), .inl (cT 2, 3, .inl (fun _ => 0)), .inl (cT 9, 4, .inr (.inr (.inr (.inr (va_up (va_up (va_up (va_up (fun _ => none) 0 (some (b + 96))) 1 (some (b + 98))) 2 (some (b + 100))) 3 (some (b + 102))))))), .inr (0, [.ref (b + 97)]), .inl (cT 0, 58, .inl (upd (fun _ => 0) 2 (-1))), .inr (4, [.int 24, .int 3, .int 3, .ref (b + 99)]), .inl (cT 0, 97, .inl (fun _ => 0)), .inr (3, [.int 8, .int 2, .int 12, .ref (b + 101)]), .inl (cT 0, 25, .inl (fun _ => 0)), .inr (1, [.int 5, .int 2, .int 17, .ref (b + 103)]), .inl (cT 0, 16, .inl (fun _ => 0)), .inr (4, [.int 24, .int 3, .int 3, .ref (b + 105)]), .inl (cT 0, 97, .inl (fun _ => 0)), .inr (6, [.ref (b + 107), .ref (b + 108), .int 0, .int 0, .int 0, .int 0]), .inl (cT 0, 5, .inl (fun _ => 0)), .inl (cT 1, 0, .inl (fun _ => 0)), .inr (5, [.null, .null, .null, .null, .null, .null, .null, .null, .null, .int 0, .int 0, .int 0])]) H := hP
  refine W.widen (k := 109) (n := 4499) (Nat.le_of_ble_eq_true rfl) (Nat.le_of_ble_eq_true rfl) ?_
  refine lv_dup hx hb dX11_init_134 rfl ?_
  have hPc := gb_drop hP 109 (suf := [.inr (5, [.null, .null, .null, .null, .null, .null, .null, .null, .null, .int 0, .int 0, .int 0])]) rfl rfl
  refine gb_callv (va_runIN (As := []) (rest := [.ref (b + 109), .ref (b + 0)]) ⟨hx, hb, hml, hown, hq⟩ (k_X6_init l D cT tt b1 (b + 109) (Nat.le_trans hb1 (Nat.le_add_right b 109))) (⟨va_cnB 0 hq (gb_gI w_193) rfl rfl rfl (hSt.2.1 _ gb_n191) (hq _ w_11) (by decide +kernel) ⟨Nat.le_of_ble_eq_true rfl, Nat.le_of_ble_eq_true rfl⟩, rfl, hq _ w_192⟩) (gb_preS hSt hS (fun q h => Nat.le_trans hb1 h) (show va_P D vwCl (gb_wl (b + 109) [.inr (5, [.null, .null, .null, .null, .null, .null, .null, .null, .null, .int 0, .int 0, .int 0])]) H ∧ Array.size H = b + 109 + 1 from ⟨hPc, hz⟩)) rfl rfl hl.1 rfl (lv_room (Nat.le_of_ble_eq_true rfl)) dX11_init_135 ⟨Nat.le_of_ble_eq_true rfl, Nat.le_of_ble_eq_true rfl⟩) hS (fun q h => Nat.le_trans (Nat.le_add_right b 109) h) (fun q h => Nat.le_trans (Nat.le_add_right b 109) h) (fun H locs hY hk hS => ?_)
  have hP := gb_glue hP 109 (pre := [.inr (9, [.ref (b + 1), .ref (b + 24), .ref (b + 94), .ref (b + 95), .ref (b + 104), .ref (b + 106), .null, .null, .null, .int 0]), .inr (8, [.ref (b + 2), .ref (b + 7), .ref (b + 12), .ref (b + 17), .ref (b + 22), .ref (b + 23), .int 0, .int 0, .int (-1)]), .inl (cT 4, 2, .inr (.inr (.inr (.inr (va_up (va_up (fun _ => none) 0 (some (b + 3))) 1 (some (b + 5))))))), .inr (0, [.ref (b + 4)]), .inl (cT 0, 58, .inl (upd (fun _ => 0) 2 (-1))), .inr (0, [.ref (b + 6)]), .inl (cT 0, 58, .inl (upd (fun _ => 0) 2 (-1))), .inl (cT 5, 2, .inr (.inr (.inr (.inr (va_up (va_up (fun _ => none) 0 (some (b + 8))) 1 (some (b + 10))))))), .inr (4, [.int 24, .int 3, .int 3, .ref (b + 9)]), .inl (cT 0, 97, .inl (fun _ => 0)), .inr (4, [.int 24, .int 3, .int 3, .ref (b + 11)]), .inl (cT 0, 97, .inl (fun _ => 0)), .inl (cT 6, 2, .inr (.inr (.inr (.inr (va_up (va_up (fun _ => none) 0 (some (b + 13))) 1 (some (b + 15))))))), .inr (3, [.int 8, .int 2, .int 12, .ref (b + 14)]), .inl (cT 0, 25, .inl (fun _ => 0)), .inr (3, [.int 8, .int 2, .int 12, .ref (b + 16)]), .inl (cT 0, 25, .inl (fun _ => 0)), .inl (cT 7, 2, .inr (.inr (.inr (.inr (va_up (va_up (fun _ => none) 0 (some (b + 18))) 1 (some (b + 20))))))), .inr (1, [.int 5, .int 2, .int 17, .ref (b + 19)]), .inl (cT 0, 16, .inl (fun _ => 0)), .inr (1, [.int 5, .int 2, .int 17, .ref (b + 21)]), .inl (cT 0, 16, .inl (fun _ => 0)), .inl (cT 0, 4, .inl (fun _ => 0)), .inl (cT 1, 600, .inl (fun _ => 0)), .inl (cT 8, 3, .inr (.inr (.inr (.inr (va_up (va_up (va_up (fun _ => none) 0 (some (b + 25))) 1 (some (b + 48))) 2 (some (b + 71))))))), .inr (8, [.ref (b + 26), .ref (b + 31), .ref (b + 36), .ref (b + 41), .ref (b + 46), .ref (b + 47), .int 0, .int 0, .int (-1)]), .inl (cT 4, 2, .inr (.inr (.inr (.inr (va_up (va_up (fun _ => none) 0 (some (b + 27))) 1 (some (b + 29))))))), .inr (0, [.ref (b + 28)]), .inl (cT 0, 58, .inl (upd (fun _ => 0) 2 (-1))), .inr (0, [.ref (b + 30)]), .inl (cT 0, 58, .inl (upd (fun _ => 0) 2 (-1))), .inl (cT 5, 2, .inr (.inr (.inr (.inr (va_up (va_up (fun _ => none) 0 (some (b + 32))) 1 (some (b + 34))))))), .inr (4, [.int 24, .int 3, .int 3, .ref (b + 33)]), .inl (cT 0, 97, .inl (fun _ => 0)), .inr (4, [.int 24, .int 3, .int 3, .ref (b + 35)]), .inl (cT 0, 97, .inl (fun _ => 0)), .inl (cT 6, 2, .inr (.inr (.inr (.inr (va_up (va_up (fun _ => none) 0 (some (b + 37))) 1 (some (b + 39))))))), .inr (3, [.int 8, .int 2, .int 12, .ref (b + 38)]), .inl (cT 0, 25, .inl (fun _ => 0)), .inr (3, [.int 8, .int 2, .int 12, .ref (b + 40)]), .inl (cT 0, 25, .inl (fun _ => 0)), .inl (cT 7, 2, .inr (.inr (.inr (.inr (va_up (va_up (fun _ => none) 0 (some (b + 42))) 1 (some (b + 44))))))), .inr (1, [.int 5, .int 2, .int 17, .ref (b + 43)]), .inl (cT 0, 16, .inl (fun _ => 0)), .inr (1, [.int 5, .int 2, .int 17, .ref (b + 45)]), .inl (cT 0, 16, .inl (fun _ => 0)), .inl (cT 0, 4, .inl (fun _ => 0)), .inl (cT 1, 600, .inl (fun _ => 0)), .inr (8, [.ref (b + 49), .ref (b + 54), .ref (b + 59), .ref (b + 64), .ref (b + 69), .ref (b + 70), .int 0, .int 0, .int (-1)]), .inl (cT 4, 2, .inr (.inr (.inr (.inr (va_up (va_up (fun _ => none) 0 (some (b + 50))) 1 (some (b + 52))))))), .inr (0, [.ref (b + 51)]), .inl (cT 0, 58, .inl (upd (fun _ => 0) 2 (-1))), .inr (0, [.ref (b + 53)]), .inl (cT 0, 58, .inl (upd (fun _ => 0) 2 (-1))), .inl (cT 5, 2, .inr (.inr (.inr (.inr (va_up (va_up (fun _ => none) 0 (some (b + 55))) 1 (some (b + 57))))))), .inr (4, [.int 24, .int 3, .int 3, .ref (b + 56)]), .inl (cT 0, 97, .inl (fun _ => 0)), .inr (4, [.int 24, .int 3, .int 3, .ref (b + 58)]), .inl (cT 0, 97, .inl (fun _ => 0)), .inl (cT 6, 2, .inr (.inr (.inr (.inr (va_up (va_up (fun _ => none) 0 (some (b + 60))) 1 (some (b + 62))))))), .inr (3, [.int 8, .int 2, .int 12, .ref (b + 61)]), .inl (cT 0, 25, .inl (fun _ => 0)), .inr (3, [.int 8, .int 2, .int 12, .ref (b + 63)]), .inl (cT 0, 25, .inl (fun _ => 0)), .inl (cT 7, 2, .inr (.inr (.inr (.inr (va_up (va_up (fun _ => none) 0 (some (b + 65))) 1 (some (b + 67))))))), .inr (1, [.int 5, .int 2, .int 17, .ref (b + 66)]), .inl (cT 0, 16, .inl (fun _ => 0)), .inr (1, [.int 5, .int 2, .int 17, .ref (b + 68)]), .inl (cT 0, 16, .inl (fun _ => 0)), .inl (cT 0, 4, .inl (fun _ => 0)), .inl (cT 1, 600, .inl (fun _ => 0)), .inr (8, [.ref (b + 72), .ref (b + 77), .ref (b + 82), .ref (b + 87), .ref (b + 92), .ref (b + 93), .int 0, .int 0, .int (-1)]), .inl (cT 4, 2, .inr (.inr (.inr (.inr (va_up (va_up (fun _ => none) 0 (some (b + 73))) 1 (some (b + 75))))))), .inr (0, [.ref (b + 74)]), .inl (cT 0, 58, .inl (upd (fun _ => 0) 2 (-1))), .inr (0, [.ref (b + 76)]), .inl (cT 0, 58, .inl (upd (fun _ => 0) 2 (-1))), .inl (cT 5, 2, .inr (.inr (.inr (.inr (va_up (va_up (fun _ => none) 0 (some (b + 78))) 1 (some (b + 80))))))), .inr (4, [.int 24, .int 3, .int 3, .ref (b + 79)]), .inl (cT 0, 97, .inl (fun _ => 0)), .inr (4, [.int 24, .int 3, .int 3, .ref (b + 81)]), .inl (cT 0, 97, .inl (fun _ => 0)), .inl (cT 6, 2, .inr (.inr (.inr (.inr (va_up (va_up (fun _ => none) 0 (some (b + 83))) 1 (some (b + 85))))))), .inr (3, [.int 8, .int 2, .int 12, .ref (b + 84)]), .inl (cT 0, 25, .inl (fun _ => 0)), .inr (3, [.int 8, .int 2, .int 12, .ref (b + 86)]), .inl (cT 0, 25, .inl (fun _ => 0)), .inl (cT 7, 2, .inr (.inr (.inr (.inr (va_up (va_up (fun _ => none) 0 (some (b + 88))) 1 (some (b + 90))))))), .inr (1, [.int 5, .int 2, .int 17, .ref (b + 89)]), .inl (cT 0, 16, .inl (fun _ => 0)), .inr (1, [.int 5, .int 2, .int 17, .ref (b + 91)]), .inl (cT 0, 16, .inl (fun _ => 0)), .inl (cT 0, 4, .inl (fun _ => 0)), .inl (cT 1, 600, .inl (fun _ => 0)), .inl (cT 2, 3, .inl (fun _ => 0)), .inl (cT 9, 4, .inr (.inr (.inr (.inr (va_up (va_up (va_up (va_up (fun _ => none) 0 (some (b + 96))) 1 (some (b + 98))) 2 (some (b + 100))) 3 (some (b + 102))))))), .inr (0, [.ref (b + 97)]), .inl (cT 0, 58, .inl (upd (fun _ => 0) 2 (-1))), .inr (4, [.int 24, .int 3, .int 3, .ref (b + 99)]), .inl (cT 0, 97, .inl (fun _ => 0)), .inr (3, [.int 8, .int 2, .int 12, .ref (b + 101)]), .inl (cT 0, 25, .inl (fun _ => 0)), .inr (1, [.int 5, .int 2, .int 17, .ref (b + 103)]), .inl (cT 0, 16, .inl (fun _ => 0)), .inr (4, [.int 24, .int 3, .int 3, .ref (b + 105)]), .inl (cT 0, 97, .inl (fun _ => 0)), .inr (6, [.ref (b + 107), .ref (b + 108), .int 0, .int 0, .int 0, .int 0]), .inl (cT 0, 5, .inl (fun _ => 0)), .inl (cT 1, 0, .inl (fun _ => 0))]) rfl rfl hk hY.1
  have hP : va_P D vwCl (gb_wl b [.inr (9, [.ref (b + 1), .ref (b + 24), .ref (b + 94), .ref (b + 95), .ref (b + 104), .ref (b + 106), .null, .null, .null, .int 0]), .inr (8, [.ref (b + 2), .ref (b + 7), .ref (b + 12), .ref (b + 17), .ref (b + 22), .ref (b + 23), .int 0, .int 0, .int (-1)]), .inl (cT 4, 2, .inr (.inr (.inr (.inr (va_up (va_up (fun _ => none) 0 (some (b + 3))) 1 (some (b + 5))))))), .inr (0, [.ref (b + 4)]), .inl (cT 0, 58, .inl (upd (fun _ => 0) 2 (-1))), .inr (0, [.ref (b + 6)]), .inl (cT 0, 58, .inl (upd (fun _ => 0) 2 (-1))), .inl (cT 5, 2, .inr (.inr (.inr (.inr (va_up (va_up (fun _ => none) 0 (some (b + 8))) 1 (some (b + 10))))))), .inr (4, [.int 24, .int 3, .int 3, .ref (b + 9)]), .inl (cT 0, 97, .inl (fun _ => 0)), .inr (4, [.int 24, .int 3, .int 3, .ref (b + 11)]), .inl (cT 0, 97, .inl (fun _ => 0)), .inl (cT 6, 2, .inr (.inr (.inr (.inr (va_up (va_up (fun _ => none) 0 (some (b + 13))) 1 (some (b + 15))))))), .inr (3, [.int 8, .int 2, .int 12, .ref (b + 14)]), .inl (cT 0, 25, .inl (fun _ => 0)), .inr (3, [.int 8, .int 2, .int 12, .ref (b + 16)]), .inl (cT 0, 25, .inl (fun _ => 0)), .inl (cT 7, 2, .inr (.inr (.inr (.inr (va_up (va_up (fun _ => none) 0 (some (b + 18))) 1 (some (b + 20))))))), .inr (1, [.int 5, .int 2, .int 17, .ref (b + 19)]), .inl (cT 0, 16, .inl (fun _ => 0)), .inr (1, [.int 5, .int 2, .int 17, .ref (b + 21)]), .inl (cT 0, 16, .inl (fun _ => 0)), .inl (cT 0, 4, .inl (fun _ => 0)), .inl (cT 1, 600, .inl (fun _ => 0)), .inl (cT 8, 3, .inr (.inr (.inr (.inr (va_up (va_up (va_up (fun _ => none) 0 (some (b + 25))) 1 (some (b + 48))) 2 (some (b + 71))))))), .inr (8, [.ref (b + 26), .ref (b + 31), .ref (b + 36), .ref (b + 41), .ref (b + 46), .ref (b + 47), .int 0, .int 0, .int (-1)]), .inl (cT 4, 2, .inr (.inr (.inr (.inr (va_up (va_up (fun _ => none) 0 (some (b + 27))) 1 (some (b + 29))))))), .inr (0, [.ref (b + 28)]), .inl (cT 0, 58, .inl (upd (fun _ => 0) 2 (-1))), .inr (0, [.ref (b + 30)]), .inl (cT 0, 58, .inl (upd (fun _ => 0) 2 (-1))), .inl (cT 5, 2, .inr (.inr (.inr (.inr (va_up (va_up (fun _ => none) 0 (some (b + 32))) 1 (some (b + 34))))))), .inr (4, [.int 24, .int 3, .int 3, .ref (b + 33)]), .inl (cT 0, 97, .inl (fun _ => 0)), .inr (4, [.int 24, .int 3, .int 3, .ref (b + 35)]), .inl (cT 0, 97, .inl (fun _ => 0)), .inl (cT 6, 2, .inr (.inr (.inr (.inr (va_up (va_up (fun _ => none) 0 (some (b + 37))) 1 (some (b + 39))))))), .inr (3, [.int 8, .int 2, .int 12, .ref (b + 38)]), .inl (cT 0, 25, .inl (fun _ => 0)), .inr (3, [.int 8, .int 2, .int 12, .ref (b + 40)]), .inl (cT 0, 25, .inl (fun _ => 0)), .inl (cT 7, 2, .inr (.inr (.inr (.inr (va_up (va_up (fun _ => none) 0 (some (b + 42))) 1 (some (b + 44))))))), .inr (1, [.int 5, .int 2, .int 17, .ref (b + 43)]), .inl (cT 0, 16, .inl (fun _ => 0)), .inr (1, [.int 5, .int 2, .int 17, .ref (b + 45)]), .inl (cT 0, 16, .inl (fun _ => 0)), .inl (cT 0, 4, .inl (fun _ => 0)), .inl (cT 1, 600, .inl (fun _ => 0)), .inr (8, [.ref (b + 49), .ref (b + 54), .ref (b + 59), .ref (b + 64), .ref (b + 69), .ref (b + 70), .int 0, .int 0, .int (-1)]), .inl (cT 4, 2, .inr (.inr (.inr (.inr (va_up (va_up (fun _ => none) 0 (some (b + 50))) 1 (some (b + 52))))))), .inr (0, [.ref (b + 51)]), .inl (cT 0, 58, .inl (upd (fun _ => 0) 2 (-1))), .inr (0, [.ref (b + 53)]), .inl (cT 0, 58, .inl (upd (fun _ => 0) 2 (-1))), .inl (cT 5, 2, .inr (.inr (.inr (.inr (va_up (va_up (fun _ => none) 0 (some (b + 55))) 1 (some (b + 57))))))), .inr (4, [.int 24, .int 3, .int 3, .ref (b + 56)]), .inl (cT 0, 97, .inl (fun _ => 0)), .inr (4, [.int 24, .int 3, .int 3, .ref (b + 58)]), .inl (cT 0, 97, .inl (fun _ => 0)), .inl (cT 6, 2, .inr (.inr (.inr (.inr (va_up (va_up (fun _ => none) 0 (some (b + 60))) 1 (some (b + 62))))))), .inr (3, [.int 8, .int 2, .int 12, .ref (b + 61)]), .inl (cT 0, 25, .inl (fun _ => 0)), .inr (3, [.int 8, .int 2, .int 12, .ref (b + 63)]), .inl (cT 0, 25, .inl (fun _ => 0)), .inl (cT 7, 2, .inr (.inr (.inr (.inr (va_up (va_up (fun _ => none) 0 (some (b + 65))) 1 (some (b + 67))))))), .inr (1, [.int 5, .int 2, .int 17, .ref (b + 66)]), .inl (cT 0, 16, .inl (fun _ => 0)), .inr (1, [.int 5, .int 2, .int 17, .ref (b + 68)]), .inl (cT 0, 16, .inl (fun _ => 0)), .inl (cT 0, 4, .inl (fun _ => 0)), .inl (cT 1, 600, .inl (fun _ => 0)), .inr (8, [.ref (b + 72), .ref (b + 77), .ref (b + 82), .ref (b + 87), .ref (b + 92), .ref (b + 93), .int 0, .int 0, .int (-1)]), .inl (cT 4, 2, .inr (.inr (.inr (.inr (va_up (va_up (fun _ => none) 0 (some (b + 73))) 1 (some (b + 75))))))), .inr (0, [.ref (b + 74)]), .inl (cT 0, 58, .inl (upd (fun _ => 0) 2 (-1))), .inr (0, [.ref (b + 76)]), .inl (cT 0, 58, .inl (upd (fun _ => 0) 2 (-1))), .inl (cT 5, 2, .inr (.inr (.inr (.inr (va_up (va_up (fun _ => none) 0 (some (b + 78))) 1 (some (b + 80))))))), .inr (4, [.int 24, .int 3, .int 3, .ref (b + 79)]), .inl (cT 0, 97, .inl (fun _ => 0)), .inr (4, [.int 24, .int 3, .int 3, .ref (b + 81)]), .inl (cT 0, 97, .inl (fun _ => 0)), .inl (cT 6, 2, .inr (.inr (.inr (.inr (va_up (va_up (fun _ => none) 0 (some (b + 83))) 1 (some (b + 85))))))), .inr (3, [.int 8, .int 2, .int 12, .ref (b + 84)]), .inl (cT 0, 25, .inl (fun _ => 0)), .inr (3, [.int 8, .int 2, .int 12, .ref (b + 86)]), .inl (cT 0, 25, .inl (fun _ => 0)), .inl (cT 7, 2, .inr (.inr (.inr (.inr (va_up (va_up (fun _ => none) 0 (some (b + 88))) 1 (some (b + 90))))))), .inr (1, [.int 5, .int 2, .int 17, .ref (b + 89)]), .inl (cT 0, 16, .inl (fun _ => 0)), .inr (1, [.int 5, .int 2, .int 17, .ref (b + 91)]), .inl (cT 0, 16, .inl (fun _ => 0)), .inl (cT 0, 4, .inl (fun _ => 0)), .inl (cT 1, 600, .inl (fun _ => 0)), .inl (cT 2, 3, .inl (fun _ => 0)), .inl (cT 9, 4, .inr (.inr (.inr (.inr (va_up (va_up (va_up (va_up (fun _ => none) 0 (some (b + 96))) 1 (some (b + 98))) 2 (some (b + 100))) 3 (some (b + 102))))))), .inr (0, [.ref (b + 97)]), .inl (cT 0, 58, .inl (upd (fun _ => 0) 2 (-1))), .inr (4, [.int 24, .int 3, .int 3, .ref (b + 99)]), .inl (cT 0, 97, .inl (fun _ => 0)), .inr (3, [.int 8, .int 2, .int 12, .ref (b + 101)]), .inl (cT 0, 25, .inl (fun _ => 0)), .inr (1, [.int 5, .int 2, .int 17, .ref (b + 103)]), .inl (cT 0, 16, .inl (fun _ => 0)), .inr (4, [.int 24, .int 3, .int 3, .ref (b + 105)]), .inl (cT 0, 97, .inl (fun _ => 0)), .inr (6, [.ref (b + 107), .ref (b + 108), .int 0, .int 0, .int 0, .int 0]), .inl (cT 0, 5, .inl (fun _ => 0)), .inl (cT 1, 0, .inl (fun _ => 0)), .inr (5, [.ref (b + 110), .ref (b + 112), .ref (b + 113), .ref (b + 114), .ref (b + 115), .ref (b + 116), .ref (b + 117), .ref (b + 118), .ref (b + 119), .int 0, .int 0, .int 0]), .inr (0, [.ref (b + 111)]), .inl (cT 0, 58, .inl (upd (fun _ => 0) 2 (-1))), .inl (cT 0, 8, .inl (fun _ => 0)), .inl (cT 0, 8, .inl (fun _ => 0)), .inl (cT 0, 8, .inl (fun _ => 0)), .inl (cT 0, 8, .inl (fun _ => 0)), .inl (cT 0, 5, .inl (fun _ => 0)), .inl (cT 0, 5, .inl (fun _ => 0)), .inl (cT 0, 5, .inl (fun _ => 0)), .inl (cT 0, 40, .inl (fun _ => 0))]) H := hP
  have hz : Array.size H = b + 120 := hY.2
  refine W.widen (k := 119) (n := 4645) (Nat.le_of_ble_eq_true rfl) (Nat.le_of_ble_eq_true rfl) ?_
  refine gb_putF (ci := 9) (v := (.ref (b + 109))) (ty := .object "GooseBorder$Play") (C := RX11) (T := TX11) (N := 10) hx hb hq i_X11 tyX11 tyX11_ok nmX11 hown hK hP (fun k _ => Nat.le_add_right b k) hS hz 0 rfl rfl 6 (by decide) (hq _ w_321) (fun _ h9 => h9) rfl hin rfl (by decide +kernel) rfl rfl (Nat.le_of_ble_eq_true rfl) dX11_init_138 (fun H locs hP hz hS => ?_)
  have hP : va_P D vwCl (gb_wl b [.inr (9, [.ref (b + 1), .ref (b + 24), .ref (b + 94), .ref (b + 95), .ref (b + 104), .ref (b + 106), .ref (b + 109), .null, .null, .int 0]), .inr (8, [.ref (b + 2), .ref (b + 7), .ref (b + 12), .ref (b + 17), .ref (b + 22), .ref (b + 23), .int 0, .int 0, .int (-1)]), .inl (cT 4, 2, .inr (.inr (.inr (.inr (va_up (va_up (fun _ => none) 0 (some (b + 3))) 1 (some (b + 5))))))), .inr (0, [.ref (b + 4)]), .inl (cT 0, 58, .inl (upd (fun _ => 0) 2 (-1))), .inr (0, [.ref (b + 6)]), .inl (cT 0, 58, .inl (upd (fun _ => 0) 2 (-1))), .inl (cT 5, 2, .inr (.inr (.inr (.inr (va_up (va_up (fun _ => none) 0 (some (b + 8))) 1 (some (b + 10))))))), .inr (4, [.int 24, .int 3, .int 3, .ref (b + 9)]), .inl (cT 0, 97, .inl (fun _ => 0)), .inr (4, [.int 24, .int 3, .int 3, .ref (b + 11)]), .inl (cT 0, 97, .inl (fun _ => 0)), .inl (cT 6, 2, .inr (.inr (.inr (.inr (va_up (va_up (fun _ => none) 0 (some (b + 13))) 1 (some (b + 15))))))), .inr (3, [.int 8, .int 2, .int 12, .ref (b + 14)]), .inl (cT 0, 25, .inl (fun _ => 0)), .inr (3, [.int 8, .int 2, .int 12, .ref (b + 16)]), .inl (cT 0, 25, .inl (fun _ => 0)), .inl (cT 7, 2, .inr (.inr (.inr (.inr (va_up (va_up (fun _ => none) 0 (some (b + 18))) 1 (some (b + 20))))))), .inr (1, [.int 5, .int 2, .int 17, .ref (b + 19)]), .inl (cT 0, 16, .inl (fun _ => 0)), .inr (1, [.int 5, .int 2, .int 17, .ref (b + 21)]), .inl (cT 0, 16, .inl (fun _ => 0)), .inl (cT 0, 4, .inl (fun _ => 0)), .inl (cT 1, 600, .inl (fun _ => 0)), .inl (cT 8, 3, .inr (.inr (.inr (.inr (va_up (va_up (va_up (fun _ => none) 0 (some (b + 25))) 1 (some (b + 48))) 2 (some (b + 71))))))), .inr (8, [.ref (b + 26), .ref (b + 31), .ref (b + 36), .ref (b + 41), .ref (b + 46), .ref (b + 47), .int 0, .int 0, .int (-1)]), .inl (cT 4, 2, .inr (.inr (.inr (.inr (va_up (va_up (fun _ => none) 0 (some (b + 27))) 1 (some (b + 29))))))), .inr (0, [.ref (b + 28)]), .inl (cT 0, 58, .inl (upd (fun _ => 0) 2 (-1))), .inr (0, [.ref (b + 30)]), .inl (cT 0, 58, .inl (upd (fun _ => 0) 2 (-1))), .inl (cT 5, 2, .inr (.inr (.inr (.inr (va_up (va_up (fun _ => none) 0 (some (b + 32))) 1 (some (b + 34))))))), .inr (4, [.int 24, .int 3, .int 3, .ref (b + 33)]), .inl (cT 0, 97, .inl (fun _ => 0)), .inr (4, [.int 24, .int 3, .int 3, .ref (b + 35)]), .inl (cT 0, 97, .inl (fun _ => 0)), .inl (cT 6, 2, .inr (.inr (.inr (.inr (va_up (va_up (fun _ => none) 0 (some (b + 37))) 1 (some (b + 39))))))), .inr (3, [.int 8, .int 2, .int 12, .ref (b + 38)]), .inl (cT 0, 25, .inl (fun _ => 0)), .inr (3, [.int 8, .int 2, .int 12, .ref (b + 40)]), .inl (cT 0, 25, .inl (fun _ => 0)), .inl (cT 7, 2, .inr (.inr (.inr (.inr (va_up (va_up (fun _ => none) 0 (some (b + 42))) 1 (some (b + 44))))))), .inr (1, [.int 5, .int 2, .int 17, .ref (b + 43)]), .inl (cT 0, 16, .inl (fun _ => 0)), .inr (1, [.int 5, .int 2, .int 17, .ref (b + 45)]), .inl (cT 0, 16, .inl (fun _ => 0)), .inl (cT 0, 4, .inl (fun _ => 0)), .inl (cT 1, 600, .inl (fun _ => 0)), .inr (8, [.ref (b + 49), .ref (b + 54), .ref (b + 59), .ref (b + 64), .ref (b + 69), .ref (b + 70), .int 0, .int 0, .int (-1)]), .inl (cT 4, 2, .inr (.inr (.inr (.inr (va_up (va_up (fun _ => none) 0 (some (b + 50))) 1 (some (b + 52))))))), .inr (0, [.ref (b + 51)]), .inl (cT 0, 58, .inl (upd (fun _ => 0) 2 (-1))), .inr (0, [.ref (b + 53)]), .inl (cT 0, 58, .inl (upd (fun _ => 0) 2 (-1))), .inl (cT 5, 2, .inr (.inr (.inr (.inr (va_up (va_up (fun _ => none) 0 (some (b + 55))) 1 (some (b + 57))))))), .inr (4, [.int 24, .int 3, .int 3, .ref (b + 56)]), .inl (cT 0, 97, .inl (fun _ => 0)), .inr (4, [.int 24, .int 3, .int 3, .ref (b + 58)]), .inl (cT 0, 97, .inl (fun _ => 0)), .inl (cT 6, 2, .inr (.inr (.inr (.inr (va_up (va_up (fun _ => none) 0 (some (b + 60))) 1 (some (b + 62))))))), .inr (3, [.int 8, .int 2, .int 12, .ref (b + 61)]), .inl (cT 0, 25, .inl (fun _ => 0)), .inr (3, [.int 8, .int 2, .int 12, .ref (b + 63)]), .inl (cT 0, 25, .inl (fun _ => 0)), .inl (cT 7, 2, .inr (.inr (.inr (.inr (va_up (va_up (fun _ => none) 0 (some (b + 65))) 1 (some (b + 67))))))), .inr (1, [.int 5, .int 2, .int 17, .ref (b + 66)]), .inl (cT 0, 16, .inl (fun _ => 0)), .inr (1, [.int 5, .int 2, .int 17, .ref (b + 68)]), .inl (cT 0, 16, .inl (fun _ => 0)), .inl (cT 0, 4, .inl (fun _ => 0)), .inl (cT 1, 600, .inl (fun _ => 0)), .inr (8, [.ref (b + 72), .ref (b + 77), .ref (b + 82), .ref (b + 87), .ref (b + 92), .ref (b + 93), .int 0, .int 0, .int (-1)]), .inl (cT 4, 2, .inr (.inr (.inr (.inr (va_up (va_up (fun _ => none) 0 (some (b + 73))) 1 (some (b + 75))))))), .inr (0, [.ref (b + 74)]), .inl (cT 0, 58, .inl (upd (fun _ => 0) 2 (-1))), .inr (0, [.ref (b + 76)]), .inl (cT 0, 58, .inl (upd (fun _ => 0) 2 (-1))), .inl (cT 5, 2, .inr (.inr (.inr (.inr (va_up (va_up (fun _ => none) 0 (some (b + 78))) 1 (some (b + 80))))))), .inr (4, [.int 24, .int 3, .int 3, .ref (b + 79)]), .inl (cT 0, 97, .inl (fun _ => 0)), .inr (4, [.int 24, .int 3, .int 3, .ref (b + 81)]), .inl (cT 0, 97, .inl (fun _ => 0)), .inl (cT 6, 2, .inr (.inr (.inr (.inr (va_up (va_up (fun _ => none) 0 (some (b + 83))) 1 (some (b + 85))))))), .inr (3, [.int 8, .int 2, .int 12, .ref (b + 84)]), .inl (cT 0, 25, .inl (fun _ => 0)), .inr (3, [.int 8, .int 2, .int 12, .ref (b + 86)]), .inl (cT 0, 25, .inl (fun _ => 0)), .inl (cT 7, 2, .inr (.inr (.inr (.inr (va_up (va_up (fun _ => none) 0 (some (b + 88))) 1 (some (b + 90))))))), .inr (1, [.int 5, .int 2, .int 17, .ref (b + 89)]), .inl (cT 0, 16, .inl (fun _ => 0)), .inr (1, [.int 5, .int 2, .int 17, .ref (b + 91)]), .inl (cT 0, 16, .inl (fun _ => 0)), .inl (cT 0, 4, .inl (fun _ => 0)), .inl (cT 1, 600, .inl (fun _ => 0)), .inl (cT 2, 3, .inl (fun _ => 0)), .inl (cT 9, 4, .inr (.inr (.inr (.inr (va_up (va_up (va_up (va_up (fun _ => none) 0 (some (b + 96))) 1 (some (b + 98))) 2 (some (b + 100))) 3 (some (b + 102))))))), .inr (0, [.ref (b + 97)]), .inl (cT 0, 58, .inl (upd (fun _ => 0) 2 (-1))), .inr (4, [.int 24, .int 3, .int 3, .ref (b + 99)]), .inl (cT 0, 97, .inl (fun _ => 0)), .inr (3, [.int 8, .int 2, .int 12, .ref (b + 101)]), .inl (cT 0, 25, .inl (fun _ => 0)), .inr (1, [.int 5, .int 2, .int 17, .ref (b + 103)]), .inl (cT 0, 16, .inl (fun _ => 0)), .inr (4, [.int 24, .int 3, .int 3, .ref (b + 105)]), .inl (cT 0, 97, .inl (fun _ => 0)), .inr (6, [.ref (b + 107), .ref (b + 108), .int 0, .int 0, .int 0, .int 0]), .inl (cT 0, 5, .inl (fun _ => 0)), .inl (cT 1, 0, .inl (fun _ => 0)), .inr (5, [.ref (b + 110), .ref (b + 112), .ref (b + 113), .ref (b + 114), .ref (b + 115), .ref (b + 116), .ref (b + 117), .ref (b + 118), .ref (b + 119), .int 0, .int 0, .int 0]), .inr (0, [.ref (b + 111)]), .inl (cT 0, 58, .inl (upd (fun _ => 0) 2 (-1))), .inl (cT 0, 8, .inl (fun _ => 0)), .inl (cT 0, 8, .inl (fun _ => 0)), .inl (cT 0, 8, .inl (fun _ => 0)), .inl (cT 0, 8, .inl (fun _ => 0)), .inl (cT 0, 5, .inl (fun _ => 0)), .inl (cT 0, 5, .inl (fun _ => 0)), .inl (cT 0, 5, .inl (fun _ => 0)), .inl (cT 0, 40, .inl (fun _ => 0))]) H := hP
  refine lv_aload_n hx hb dX11_init_141 rfl (lv_at hl 0 rfl) ?_
  refine gb_new (ci := 7) (fs := [.null, .null, .null, .null, .int 0, .null, .null, .null, .null, .null, .int 0]) (C := RX8) (T := TX8) (N := 11) hx hb hq i_X8 tyX8 tyX8_ok hown (hq _ w_243) (hq _ w_244) (hq _ w_12) hK hP hS 120 hz rfl rfl (fun j hj => by rcases (show j = 0 ∨ j = 1 ∨ j = 2 ∨ j = 3 ∨ j = 4 ∨ j = 5 ∨ j = 6 ∨ j = 7 ∨ j = 8 ∨ j = 9 ∨ j = 10 by omega) with rfl | rfl | rfl | rfl | rfl | rfl | rfl | rfl | rfl | rfl | rfl <;> rfl) (Nat.le_of_ble_eq_true rfl) (Nat.le_of_ble_eq_true rfl) dX11_init_142 (fun H hP hz hS => ?_)
  have hP : va_P D vwCl (gb_wl b [.inr (9, [.ref (b + 1), .ref (b + 24), .ref (b + 94), .ref (b + 95), .ref (b + 104), .ref (b + 106), .ref (b + 109), .null, .null, .int 0]), .inr (8, [.ref (b + 2), .ref (b + 7), .ref (b + 12), .ref (b + 17), .ref (b + 22), .ref (b + 23), .int 0, .int 0, .int (-1)]), .inl (cT 4, 2, .inr (.inr (.inr (.inr (va_up (va_up (fun _ => none) 0 (some (b + 3))) 1 (some (b + 5))))))), .inr (0, [.ref (b + 4)]), .inl (cT 0, 58, .inl (upd (fun _ => 0) 2 (-1))), .inr (0, [.ref (b + 6)]), .inl (cT 0, 58, .inl (upd (fun _ => 0) 2 (-1))), .inl (cT 5, 2, .inr (.inr (.inr (.inr (va_up (va_up (fun _ => none) 0 (some (b + 8))) 1 (some (b + 10))))))), .inr (4, [.int 24, .int 3, .int 3, .ref (b + 9)]), .inl (cT 0, 97, .inl (fun _ => 0)), .inr (4, [.int 24, .int 3, .int 3, .ref (b + 11)]), .inl (cT 0, 97, .inl (fun _ => 0)), .inl (cT 6, 2, .inr (.inr (.inr (.inr (va_up (va_up (fun _ => none) 0 (some (b + 13))) 1 (some (b + 15))))))), .inr (3, [.int 8, .int 2, .int 12, .ref (b + 14)]), .inl (cT 0, 25, .inl (fun _ => 0)), .inr (3, [.int 8, .int 2, .int 12, .ref (b + 16)]), .inl (cT 0, 25, .inl (fun _ => 0)), .inl (cT 7, 2, .inr (.inr (.inr (.inr (va_up (va_up (fun _ => none) 0 (some (b + 18))) 1 (some (b + 20))))))), .inr (1, [.int 5, .int 2, .int 17, .ref (b + 19)]), .inl (cT 0, 16, .inl (fun _ => 0)), .inr (1, [.int 5, .int 2, .int 17, .ref (b + 21)]), .inl (cT 0, 16, .inl (fun _ => 0)), .inl (cT 0, 4, .inl (fun _ => 0)), .inl (cT 1, 600, .inl (fun _ => 0)), .inl (cT 8, 3, .inr (.inr (.inr (.inr (va_up (va_up (va_up (fun _ => none) 0 (some (b + 25))) 1 (some (b + 48))) 2 (some (b + 71))))))), .inr (8, [.ref (b + 26), .ref (b + 31), .ref (b + 36), .ref (b + 41), .ref (b + 46), .ref (b + 47), .int 0, .int 0, .int (-1)]), .inl (cT 4, 2, .inr (.inr (.inr (.inr (va_up (va_up (fun _ => none) 0 (some (b + 27))) 1 (some (b + 29))))))), .inr (0, [.ref (b + 28)]), .inl (cT 0, 58, .inl (upd (fun _ => 0) 2 (-1))), .inr (0, [.ref (b + 30)]), .inl (cT 0, 58, .inl (upd (fun _ => 0) 2 (-1))), .inl (cT 5, 2, .inr (.inr (.inr (.inr (va_up (va_up (fun _ => none) 0 (some (b + 32))) 1 (some (b + 34))))))), .inr (4, [.int 24, .int 3, .int 3, .ref (b + 33)]), .inl (cT 0, 97, .inl (fun _ => 0)), .inr (4, [.int 24, .int 3, .int 3, .ref (b + 35)]), .inl (cT 0, 97, .inl (fun _ => 0)), .inl (cT 6, 2, .inr (.inr (.inr (.inr (va_up (va_up (fun _ => none) 0 (some (b + 37))) 1 (some (b + 39))))))), .inr (3, [.int 8, .int 2, .int 12, .ref (b + 38)]), .inl (cT 0, 25, .inl (fun _ => 0)), .inr (3, [.int 8, .int 2, .int 12, .ref (b + 40)]), .inl (cT 0, 25, .inl (fun _ => 0)), .inl (cT 7, 2, .inr (.inr (.inr (.inr (va_up (va_up (fun _ => none) 0 (some (b + 42))) 1 (some (b + 44))))))), .inr (1, [.int 5, .int 2, .int 17, .ref (b + 43)]), .inl (cT 0, 16, .inl (fun _ => 0)), .inr (1, [.int 5, .int 2, .int 17, .ref (b + 45)]), .inl (cT 0, 16, .inl (fun _ => 0)), .inl (cT 0, 4, .inl (fun _ => 0)), .inl (cT 1, 600, .inl (fun _ => 0)), .inr (8, [.ref (b + 49), .ref (b + 54), .ref (b + 59), .ref (b + 64), .ref (b + 69), .ref (b + 70), .int 0, .int 0, .int (-1)]), .inl (cT 4, 2, .inr (.inr (.inr (.inr (va_up (va_up (fun _ => none) 0 (some (b + 50))) 1 (some (b + 52))))))), .inr (0, [.ref (b + 51)]), .inl (cT 0, 58, .inl (upd (fun _ => 0) 2 (-1))), .inr (0, [.ref (b + 53)]), .inl (cT 0, 58, .inl (upd (fun _ => 0) 2 (-1))), .inl (cT 5, 2, .inr (.inr (.inr (.inr (va_up (va_up (fun _ => none) 0 (some (b + 55))) 1 (some (b + 57))))))), .inr (4, [.int 24, .int 3, .int 3, .ref (b + 56)]), .inl (cT 0, 97, .inl (fun _ => 0)), .inr (4, [.int 24, .int 3, .int 3, .ref (b + 58)]), .inl (cT 0, 97, .inl (fun _ => 0)), .inl (cT 6, 2, .inr (.inr (.inr (.inr (va_up (va_up (fun _ => none) 0 (some (b + 60))) 1 (some (b + 62))))))), .inr (3, [.int 8, .int 2, .int 12, .ref (b + 61)]), .inl (cT 0, 25, .inl (fun _ => 0)), .inr (3, [.int 8, .int 2, .int 12, .ref (b + 63)]), .inl (cT 0, 25, .inl (fun _ => 0)), .inl (cT 7, 2, .inr (.inr (.inr (.inr (va_up (va_up (fun _ => none) 0 (some (b + 65))) 1 (some (b + 67))))))), .inr (1, [.int 5, .int 2, .int 17, .ref (b + 66)]), .inl (cT 0, 16, .inl (fun _ => 0)), .inr (1, [.int 5, .int 2, .int 17, .ref (b + 68)]), .inl (cT 0, 16, .inl (fun _ => 0)), .inl (cT 0, 4, .inl (fun _ => 0)), .inl (cT 1, 600, .inl (fun _ => 0)), .inr (8, [.ref (b + 72), .ref (b + 77), .ref (b + 82), .ref (b + 87), .ref (b + 92), .ref (b + 93), .int 0, .int 0, .int (-1)]), .inl (cT 4, 2, .inr (.inr (.inr (.inr (va_up (va_up (fun _ => none) 0 (some (b + 73))) 1 (some (b + 75))))))), .inr (0, [.ref (b + 74)]), .inl (cT 0, 58, .inl (upd (fun _ => 0) 2 (-1))), .inr (0, [.ref (b + 76)]), .inl (cT 0, 58, .inl (upd (fun _ => 0) 2 (-1))), .inl (cT 5, 2, .inr (.inr (.inr (.inr (va_up (va_up (fun _ => none) 0 (some (b + 78))) 1 (some (b + 80))))))), .inr (4, [.int 24, .int 3, .int 3, .ref (b + 79)]), .inl (cT 0, 97, .inl (fun _ => 0)), .inr (4, [.int 24, .int 3, .int 3, .ref (b + 81)]), .inl (cT 0, 97, .inl (fun _ => 0)), .inl (cT 6, 2, .inr (.inr (.inr (.inr (va_up (va_up (fun _ => none) 0 (some (b + 83))) 1 (some (b + 85))))))), .inr (3, [.int 8, .int 2, .int 12, .ref (b + 84)]), .inl (cT 0, 25, .inl (fun _ => 0)), .inr (3, [.int 8, .int 2, .int 12, .ref (b + 86)]), .inl (cT 0, 25, .inl (fun _ => 0)), .inl (cT 7, 2, .inr (.inr (.inr (.inr (va_up (va_up (fun _ => none) 0 (some (b + 88))) 1 (some (b + 90))))))), .inr (1, [.int 5, .int 2, .int 17, .ref (b + 89)]), .inl (cT 0, 16, .inl (fun _ => 0)), .inr (1, [.int 5, .int 2, .int 17, .ref (b + 91)]), .inl (cT 0, 16, .inl (fun _ => 0)), .inl (cT 0, 4, .inl (fun _ => 0)), .inl (cT 1, 600, .inl (fun _ => 0)), .inl (cT 2, 3, .inl (fun _ => 0)), .inl (cT 9, 4, .inr (.inr (.inr (.inr (va_up (va_up (va_up (va_up (fun _ => none) 0 (some (b + 96))) 1 (some (b + 98))) 2 (some (b + 100))) 3 (some (b + 102))))))), .inr (0, [.ref (b + 97)]), .inl (cT 0, 58, .inl (upd (fun _ => 0) 2 (-1))), .inr (4, [.int 24, .int 3, .int 3, .ref (b + 99)]), .inl (cT 0, 97, .inl (fun _ => 0)), .inr (3, [.int 8, .int 2, .int 12, .ref (b + 101)]), .inl (cT 0, 25, .inl (fun _ => 0)), .inr (1, [.int 5, .int 2, .int 17, .ref (b + 103)]), .inl (cT 0, 16, .inl (fun _ => 0)), .inr (4, [.int 24, .int 3, .int 3, .ref (b + 105)]), .inl (cT 0, 97, .inl (fun _ => 0)), .inr (6, [.ref (b + 107), .ref (b + 108), .int 0, .int 0, .int 0, .int 0]), .inl (cT 0, 5, .inl (fun _ => 0)), .inl (cT 1, 0, .inl (fun _ => 0)), .inr (5, [.ref (b + 110), .ref (b + 112), .ref (b + 113), .ref (b + 114), .ref (b + 115), .ref (b + 116), .ref (b + 117), .ref (b + 118), .ref (b + 119), .int 0, .int 0, .int 0]), .inr (0, [.ref (b + 111)]), .inl (cT 0, 58, .inl (upd (fun _ => 0) 2 (-1))), .inl (cT 0, 8, .inl (fun _ => 0)), .inl (cT 0, 8, .inl (fun _ => 0)), .inl (cT 0, 8, .inl (fun _ => 0)), .inl (cT 0, 8, .inl (fun _ => 0)), .inl (cT 0, 5, .inl (fun _ => 0)), .inl (cT 0, 5, .inl (fun _ => 0)), .inl (cT 0, 5, .inl (fun _ => 0)), .inl (cT 0, 40, .inl (fun _ => 0)), .inr (7, [.null, .null, .null, .null, .int 0, .null, .null, .null, .null, .null, .int 0])]) H := hP
  refine W.widen (k := 120) (n := 4656) (Nat.le_of_ble_eq_true rfl) (Nat.le_of_ble_eq_true rfl) ?_
  refine lv_dup hx hb dX11_init_145 rfl ?_
  have hPc := gb_drop hP 120 (suf := [.inr (7, [.null, .null, .null, .null, .int 0, .null, .null, .null, .null, .null, .int 0])]) rfl rfl
  refine gb_callv (va_runIN (As := []) (rest := [.ref (b + 120), .ref (b + 0)]) ⟨hx, hb, hml, hown, hq⟩ (k_X8_init l D cT tt b1 (b + 120) (Nat.le_trans hb1 (Nat.le_add_right b 120))) (⟨va_cnB 0 hq (gb_gI w_247) rfl rfl rfl (hSt.2.1 _ gb_n245) (hq _ w_12) (by decide +kernel) ⟨Nat.le_of_ble_eq_true rfl, Nat.le_of_ble_eq_true rfl⟩, rfl, hq _ w_246⟩) (gb_preS hSt hS (fun q h => Nat.le_trans hb1 h) (show va_P D vwCl (gb_wl (b + 120) [.inr (7, [.null, .null, .null, .null, .int 0, .null, .null, .null, .null, .null, .int 0])]) H ∧ Array.size H = b + 120 + 1 from ⟨hPc, hz⟩)) rfl rfl hl.1 rfl (lv_room (Nat.le_of_ble_eq_true rfl)) dX11_init_146 ⟨Nat.le_of_ble_eq_true rfl, Nat.le_of_ble_eq_true rfl⟩) hS (fun q h => Nat.le_trans (Nat.le_add_right b 120) h) (fun q h => Nat.le_trans (Nat.le_add_right b 120) h) (fun H locs hY hk hS => ?_)
  have hP := gb_glue hP 120 (pre := [.inr (9, [.ref (b + 1), .ref (b + 24), .ref (b + 94), .ref (b + 95), .ref (b + 104), .ref (b + 106), .ref (b + 109), .null, .null, .int 0]), .inr (8, [.ref (b + 2), .ref (b + 7), .ref (b + 12), .ref (b + 17), .ref (b + 22), .ref (b + 23), .int 0, .int 0, .int (-1)]), .inl (cT 4, 2, .inr (.inr (.inr (.inr (va_up (va_up (fun _ => none) 0 (some (b + 3))) 1 (some (b + 5))))))), .inr (0, [.ref (b + 4)]), .inl (cT 0, 58, .inl (upd (fun _ => 0) 2 (-1))), .inr (0, [.ref (b + 6)]), .inl (cT 0, 58, .inl (upd (fun _ => 0) 2 (-1))), .inl (cT 5, 2, .inr (.inr (.inr (.inr (va_up (va_up (fun _ => none) 0 (some (b + 8))) 1 (some (b + 10))))))), .inr (4, [.int 24, .int 3, .int 3, .ref (b + 9)]), .inl (cT 0, 97, .inl (fun _ => 0)), .inr (4, [.int 24, .int 3, .int 3, .ref (b + 11)]), .inl (cT 0, 97, .inl (fun _ => 0)), .inl (cT 6, 2, .inr (.inr (.inr (.inr (va_up (va_up (fun _ => none) 0 (some (b + 13))) 1 (some (b + 15))))))), .inr (3, [.int 8, .int 2, .int 12, .ref (b + 14)]), .inl (cT 0, 25, .inl (fun _ => 0)), .inr (3, [.int 8, .int 2, .int 12, .ref (b + 16)]), .inl (cT 0, 25, .inl (fun _ => 0)), .inl (cT 7, 2, .inr (.inr (.inr (.inr (va_up (va_up (fun _ => none) 0 (some (b + 18))) 1 (some (b + 20))))))), .inr (1, [.int 5, .int 2, .int 17, .ref (b + 19)]), .inl (cT 0, 16, .inl (fun _ => 0)), .inr (1, [.int 5, .int 2, .int 17, .ref (b + 21)]), .inl (cT 0, 16, .inl (fun _ => 0)), .inl (cT 0, 4, .inl (fun _ => 0)), .inl (cT 1, 600, .inl (fun _ => 0)), .inl (cT 8, 3, .inr (.inr (.inr (.inr (va_up (va_up (va_up (fun _ => none) 0 (some (b + 25))) 1 (some (b + 48))) 2 (some (b + 71))))))), .inr (8, [.ref (b + 26), .ref (b + 31), .ref (b + 36), .ref (b + 41), .ref (b + 46), .ref (b + 47), .int 0, .int 0, .int (-1)]), .inl (cT 4, 2, .inr (.inr (.inr (.inr (va_up (va_up (fun _ => none) 0 (some (b + 27))) 1 (some (b + 29))))))), .inr (0, [.ref (b + 28)]), .inl (cT 0, 58, .inl (upd (fun _ => 0) 2 (-1))), .inr (0, [.ref (b + 30)]), .inl (cT 0, 58, .inl (upd (fun _ => 0) 2 (-1))), .inl (cT 5, 2, .inr (.inr (.inr (.inr (va_up (va_up (fun _ => none) 0 (some (b + 32))) 1 (some (b + 34))))))), .inr (4, [.int 24, .int 3, .int 3, .ref (b + 33)]), .inl (cT 0, 97, .inl (fun _ => 0)), .inr (4, [.int 24, .int 3, .int 3, .ref (b + 35)]), .inl (cT 0, 97, .inl (fun _ => 0)), .inl (cT 6, 2, .inr (.inr (.inr (.inr (va_up (va_up (fun _ => none) 0 (some (b + 37))) 1 (some (b + 39))))))), .inr (3, [.int 8, .int 2, .int 12, .ref (b + 38)]), .inl (cT 0, 25, .inl (fun _ => 0)), .inr (3, [.int 8, .int 2, .int 12, .ref (b + 40)]), .inl (cT 0, 25, .inl (fun _ => 0)), .inl (cT 7, 2, .inr (.inr (.inr (.inr (va_up (va_up (fun _ => none) 0 (some (b + 42))) 1 (some (b + 44))))))), .inr (1, [.int 5, .int 2, .int 17, .ref (b + 43)]), .inl (cT 0, 16, .inl (fun _ => 0)), .inr (1, [.int 5, .int 2, .int 17, .ref (b + 45)]), .inl (cT 0, 16, .inl (fun _ => 0)), .inl (cT 0, 4, .inl (fun _ => 0)), .inl (cT 1, 600, .inl (fun _ => 0)), .inr (8, [.ref (b + 49), .ref (b + 54), .ref (b + 59), .ref (b + 64), .ref (b + 69), .ref (b + 70), .int 0, .int 0, .int (-1)]), .inl (cT 4, 2, .inr (.inr (.inr (.inr (va_up (va_up (fun _ => none) 0 (some (b + 50))) 1 (some (b + 52))))))), .inr (0, [.ref (b + 51)]), .inl (cT 0, 58, .inl (upd (fun _ => 0) 2 (-1))), .inr (0, [.ref (b + 53)]), .inl (cT 0, 58, .inl (upd (fun _ => 0) 2 (-1))), .inl (cT 5, 2, .inr (.inr (.inr (.inr (va_up (va_up (fun _ => none) 0 (some (b + 55))) 1 (some (b + 57))))))), .inr (4, [.int 24, .int 3, .int 3, .ref (b + 56)]), .inl (cT 0, 97, .inl (fun _ => 0)), .inr (4, [.int 24, .int 3, .int 3, .ref (b + 58)]), .inl (cT 0, 97, .inl (fun _ => 0)), .inl (cT 6, 2, .inr (.inr (.inr (.inr (va_up (va_up (fun _ => none) 0 (some (b + 60))) 1 (some (b + 62))))))), .inr (3, [.int 8, .int 2, .int 12, .ref (b + 61)]), .inl (cT 0, 25, .inl (fun _ => 0)), .inr (3, [.int 8, .int 2, .int 12, .ref (b + 63)]), .inl (cT 0, 25, .inl (fun _ => 0)), .inl (cT 7, 2, .inr (.inr (.inr (.inr (va_up (va_up (fun _ => none) 0 (some (b + 65))) 1 (some (b + 67))))))), .inr (1, [.int 5, .int 2, .int 17, .ref (b + 66)]), .inl (cT 0, 16, .inl (fun _ => 0)), .inr (1, [.int 5, .int 2, .int 17, .ref (b + 68)]), .inl (cT 0, 16, .inl (fun _ => 0)), .inl (cT 0, 4, .inl (fun _ => 0)), .inl (cT 1, 600, .inl (fun _ => 0)), .inr (8, [.ref (b + 72), .ref (b + 77), .ref (b + 82), .ref (b + 87), .ref (b + 92), .ref (b + 93), .int 0, .int 0, .int (-1)]), .inl (cT 4, 2, .inr (.inr (.inr (.inr (va_up (va_up (fun _ => none) 0 (some (b + 73))) 1 (some (b + 75))))))), .inr (0, [.ref (b + 74)]), .inl (cT 0, 58, .inl (upd (fun _ => 0) 2 (-1))), .inr (0, [.ref (b + 76)]), .inl (cT 0, 58, .inl (upd (fun _ => 0) 2 (-1))), .inl (cT 5, 2, .inr (.inr (.inr (.inr (va_up (va_up (fun _ => none) 0 (some (b + 78))) 1 (some (b + 80))))))), .inr (4, [.int 24, .int 3, .int 3, .ref (b + 79)]), .inl (cT 0, 97, .inl (fun _ => 0)), .inr (4, [.int 24, .int 3, .int 3, .ref (b + 81)]), .inl (cT 0, 97, .inl (fun _ => 0)), .inl (cT 6, 2, .inr (.inr (.inr (.inr (va_up (va_up (fun _ => none) 0 (some (b + 83))) 1 (some (b + 85))))))), .inr (3, [.int 8, .int 2, .int 12, .ref (b + 84)]), .inl (cT 0, 25, .inl (fun _ => 0)), .inr (3, [.int 8, .int 2, .int 12, .ref (b + 86)]), .inl (cT 0, 25, .inl (fun _ => 0)), .inl (cT 7, 2, .inr (.inr (.inr (.inr (va_up (va_up (fun _ => none) 0 (some (b + 88))) 1 (some (b + 90))))))), .inr (1, [.int 5, .int 2, .int 17, .ref (b + 89)]), .inl (cT 0, 16, .inl (fun _ => 0)), .inr (1, [.int 5, .int 2, .int 17, .ref (b + 91)]), .inl (cT 0, 16, .inl (fun _ => 0)), .inl (cT 0, 4, .inl (fun _ => 0)), .inl (cT 1, 600, .inl (fun _ => 0)), .inl (cT 2, 3, .inl (fun _ => 0)), .inl (cT 9, 4, .inr (.inr (.inr (.inr (va_up (va_up (va_up (va_up (fun _ => none) 0 (some (b + 96))) 1 (some (b + 98))) 2 (some (b + 100))) 3 (some (b + 102))))))), .inr (0, [.ref (b + 97)]), .inl (cT 0, 58, .inl (upd (fun _ => 0) 2 (-1))), .inr (4, [.int 24, .int 3, .int 3, .ref (b + 99)]), .inl (cT 0, 97, .inl (fun _ => 0)), .inr (3, [.int 8, .int 2, .int 12, .ref (b + 101)]), .inl (cT 0, 25, .inl (fun _ => 0)), .inr (1, [.int 5, .int 2, .int 17, .ref (b + 103)]), .inl (cT 0, 16, .inl (fun _ => 0)), .inr (4, [.int 24, .int 3, .int 3, .ref (b + 105)]), .inl (cT 0, 97, .inl (fun _ => 0)), .inr (6, [.ref (b + 107), .ref (b + 108), .int 0, .int 0, .int 0, .int 0]), .inl (cT 0, 5, .inl (fun _ => 0)), .inl (cT 1, 0, .inl (fun _ => 0)), .inr (5, [.ref (b + 110), .ref (b + 112), .ref (b + 113), .ref (b + 114), .ref (b + 115), .ref (b + 116), .ref (b + 117), .ref (b + 118), .ref (b + 119), .int 0, .int 0, .int 0]), .inr (0, [.ref (b + 111)]), .inl (cT 0, 58, .inl (upd (fun _ => 0) 2 (-1))), .inl (cT 0, 8, .inl (fun _ => 0)), .inl (cT 0, 8, .inl (fun _ => 0)), .inl (cT 0, 8, .inl (fun _ => 0)), .inl (cT 0, 8, .inl (fun _ => 0)), .inl (cT 0, 5, .inl (fun _ => 0)), .inl (cT 0, 5, .inl (fun _ => 0)), .inl (cT 0, 5, .inl (fun _ => 0)), .inl (cT 0, 40, .inl (fun _ => 0))]) rfl rfl hk hY.1
  have hP : va_P D vwCl (gb_wl b [.inr (9, [.ref (b + 1), .ref (b + 24), .ref (b + 94), .ref (b + 95), .ref (b + 104), .ref (b + 106), .ref (b + 109), .null, .null, .int 0]), .inr (8, [.ref (b + 2), .ref (b + 7), .ref (b + 12), .ref (b + 17), .ref (b + 22), .ref (b + 23), .int 0, .int 0, .int (-1)]), .inl (cT 4, 2, .inr (.inr (.inr (.inr (va_up (va_up (fun _ => none) 0 (some (b + 3))) 1 (some (b + 5))))))), .inr (0, [.ref (b + 4)]), .inl (cT 0, 58, .inl (upd (fun _ => 0) 2 (-1))), .inr (0, [.ref (b + 6)]), .inl (cT 0, 58, .inl (upd (fun _ => 0) 2 (-1))), .inl (cT 5, 2, .inr (.inr (.inr (.inr (va_up (va_up (fun _ => none) 0 (some (b + 8))) 1 (some (b + 10))))))), .inr (4, [.int 24, .int 3, .int 3, .ref (b + 9)]), .inl (cT 0, 97, .inl (fun _ => 0)), .inr (4, [.int 24, .int 3, .int 3, .ref (b + 11)]), .inl (cT 0, 97, .inl (fun _ => 0)), .inl (cT 6, 2, .inr (.inr (.inr (.inr (va_up (va_up (fun _ => none) 0 (some (b + 13))) 1 (some (b + 15))))))), .inr (3, [.int 8, .int 2, .int 12, .ref (b + 14)]), .inl (cT 0, 25, .inl (fun _ => 0)), .inr (3, [.int 8, .int 2, .int 12, .ref (b + 16)]), .inl (cT 0, 25, .inl (fun _ => 0)), .inl (cT 7, 2, .inr (.inr (.inr (.inr (va_up (va_up (fun _ => none) 0 (some (b + 18))) 1 (some (b + 20))))))), .inr (1, [.int 5, .int 2, .int 17, .ref (b + 19)]), .inl (cT 0, 16, .inl (fun _ => 0)), .inr (1, [.int 5, .int 2, .int 17, .ref (b + 21)]), .inl (cT 0, 16, .inl (fun _ => 0)), .inl (cT 0, 4, .inl (fun _ => 0)), .inl (cT 1, 600, .inl (fun _ => 0)), .inl (cT 8, 3, .inr (.inr (.inr (.inr (va_up (va_up (va_up (fun _ => none) 0 (some (b + 25))) 1 (some (b + 48))) 2 (some (b + 71))))))), .inr (8, [.ref (b + 26), .ref (b + 31), .ref (b + 36), .ref (b + 41), .ref (b + 46), .ref (b + 47), .int 0, .int 0, .int (-1)]), .inl (cT 4, 2, .inr (.inr (.inr (.inr (va_up (va_up (fun _ => none) 0 (some (b + 27))) 1 (some (b + 29))))))), .inr (0, [.ref (b + 28)]), .inl (cT 0, 58, .inl (upd (fun _ => 0) 2 (-1))), .inr (0, [.ref (b + 30)]), .inl (cT 0, 58, .inl (upd (fun _ => 0) 2 (-1))), .inl (cT 5, 2, .inr (.inr (.inr (.inr (va_up (va_up (fun _ => none) 0 (some (b + 32))) 1 (some (b + 34))))))), .inr (4, [.int 24, .int 3, .int 3, .ref (b + 33)]), .inl (cT 0, 97, .inl (fun _ => 0)), .inr (4, [.int 24, .int 3, .int 3, .ref (b + 35)]), .inl (cT 0, 97, .inl (fun _ => 0)), .inl (cT 6, 2, .inr (.inr (.inr (.inr (va_up (va_up (fun _ => none) 0 (some (b + 37))) 1 (some (b + 39))))))), .inr (3, [.int 8, .int 2, .int 12, .ref (b + 38)]), .inl (cT 0, 25, .inl (fun _ => 0)), .inr (3, [.int 8, .int 2, .int 12, .ref (b + 40)]), .inl (cT 0, 25, .inl (fun _ => 0)), .inl (cT 7, 2, .inr (.inr (.inr (.inr (va_up (va_up (fun _ => none) 0 (some (b + 42))) 1 (some (b + 44))))))), .inr (1, [.int 5, .int 2, .int 17, .ref (b + 43)]), .inl (cT 0, 16, .inl (fun _ => 0)), .inr (1, [.int 5, .int 2, .int 17, .ref (b + 45)]), .inl (cT 0, 16, .inl (fun _ => 0)), .inl (cT 0, 4, .inl (fun _ => 0)), .inl (cT 1, 600, .inl (fun _ => 0)), .inr (8, [.ref (b + 49), .ref (b + 54), .ref (b + 59), .ref (b + 64), .ref (b + 69), .ref (b + 70), .int 0, .int 0, .int (-1)]), .inl (cT 4, 2, .inr (.inr (.inr (.inr (va_up (va_up (fun _ => none) 0 (some (b + 50))) 1 (some (b + 52))))))), .inr (0, [.ref (b + 51)]), .inl (cT 0, 58, .inl (upd (fun _ => 0) 2 (-1))), .inr (0, [.ref (b + 53)]), .inl (cT 0, 58, .inl (upd (fun _ => 0) 2 (-1))), .inl (cT 5, 2, .inr (.inr (.inr (.inr (va_up (va_up (fun _ => none) 0 (some (b + 55))) 1 (some (b + 57))))))), .inr (4, [.int 24, .int 3, .int 3, .ref (b + 56)]), .inl (cT 0, 97, .inl (fun _ => 0)), .inr (4, [.int 24, .int 3, .int 3, .ref (b + 58)]), .inl (cT 0, 97, .inl (fun _ => 0)), .inl (cT 6, 2, .inr (.inr (.inr (.inr (va_up (va_up (fun _ => none) 0 (some (b + 60))) 1 (some (b + 62))))))), .inr (3, [.int 8, .int 2, .int 12, .ref (b + 61)]), .inl (cT 0, 25, .inl (fun _ => 0)), .inr (3, [.int 8, .int 2, .int 12, .ref (b + 63)]), .inl (cT 0, 25, .inl (fun _ => 0)), .inl (cT 7, 2, .inr (.inr (.inr (.inr (va_up (va_up (fun _ => none) 0 (some (b + 65))) 1 (some (b + 67))))))), .inr (1, [.int 5, .int 2, .int 17, .ref (b + 66)]), .inl (cT 0, 16, .inl (fun _ => 0)), .inr (1, [.int 5, .int 2, .int 17, .ref (b + 68)]), .inl (cT 0, 16, .inl (fun _ => 0)), .inl (cT 0, 4, .inl (fun _ => 0)), .inl (cT 1, 600, .inl (fun _ => 0)), .inr (8, [.ref (b + 72), .ref (b + 77), .ref (b + 82), .ref (b + 87), .ref (b + 92), .ref (b + 93), .int 0, .int 0, .int (-1)]), .inl (cT 4, 2, .inr (.inr (.inr (.inr (va_up (va_up (fun _ => none) 0 (some (b + 73))) 1 (some (b + 75))))))), .inr (0, [.ref (b + 74)]), .inl (cT 0, 58, .inl (upd (fun _ => 0) 2 (-1))), .inr (0, [.ref (b + 76)]), .inl (cT 0, 58, .inl (upd (fun _ => 0) 2 (-1))), .inl (cT 5, 2, .inr (.inr (.inr (.inr (va_up (va_up (fun _ => none) 0 (some (b + 78))) 1 (some (b + 80))))))), .inr (4, [.int 24, .int 3, .int 3, .ref (b + 79)]), .inl (cT 0, 97, .inl (fun _ => 0)), .inr (4, [.int 24, .int 3, .int 3, .ref (b + 81)]), .inl (cT 0, 97, .inl (fun _ => 0)), .inl (cT 6, 2, .inr (.inr (.inr (.inr (va_up (va_up (fun _ => none) 0 (some (b + 83))) 1 (some (b + 85))))))), .inr (3, [.int 8, .int 2, .int 12, .ref (b + 84)]), .inl (cT 0, 25, .inl (fun _ => 0)), .inr (3, [.int 8, .int 2, .int 12, .ref (b + 86)]), .inl (cT 0, 25, .inl (fun _ => 0)), .inl (cT 7, 2, .inr (.inr (.inr (.inr (va_up (va_up (fun _ => none) 0 (some (b + 88))) 1 (some (b + 90))))))), .inr (1, [.int 5, .int 2, .int 17, .ref (b + 89)]), .inl (cT 0, 16, .inl (fun _ => 0)), .inr (1, [.int 5, .int 2, .int 17, .ref (b + 91)]), .inl (cT 0, 16, .inl (fun _ => 0)), .inl (cT 0, 4, .inl (fun _ => 0)), .inl (cT 1, 600, .inl (fun _ => 0)), .inl (cT 2, 3, .inl (fun _ => 0)), .inl (cT 9, 4, .inr (.inr (.inr (.inr (va_up (va_up (va_up (va_up (fun _ => none) 0 (some (b + 96))) 1 (some (b + 98))) 2 (some (b + 100))) 3 (some (b + 102))))))), .inr (0, [.ref (b + 97)]), .inl (cT 0, 58, .inl (upd (fun _ => 0) 2 (-1))), .inr (4, [.int 24, .int 3, .int 3, .ref (b + 99)]), .inl (cT 0, 97, .inl (fun _ => 0)), .inr (3, [.int 8, .int 2, .int 12, .ref (b + 101)]), .inl (cT 0, 25, .inl (fun _ => 0)), .inr (1, [.int 5, .int 2, .int 17, .ref (b + 103)]), .inl (cT 0, 16, .inl (fun _ => 0)), .inr (4, [.int 24, .int 3, .int 3, .ref (b + 105)]), .inl (cT 0, 97, .inl (fun _ => 0)), .inr (6, [.ref (b + 107), .ref (b + 108), .int 0, .int 0, .int 0, .int 0]), .inl (cT 0, 5, .inl (fun _ => 0)), .inl (cT 1, 0, .inl (fun _ => 0)), .inr (5, [.ref (b + 110), .ref (b + 112), .ref (b + 113), .ref (b + 114), .ref (b + 115), .ref (b + 116), .ref (b + 117), .ref (b + 118), .ref (b + 119), .int 0, .int 0, .int 0]), .inr (0, [.ref (b + 111)]), .inl (cT 0, 58, .inl (upd (fun _ => 0) 2 (-1))), .inl (cT 0, 8, .inl (fun _ => 0)), .inl (cT 0, 8, .inl (fun _ => 0)), .inl (cT 0, 8, .inl (fun _ => 0)), .inl (cT 0, 8, .inl (fun _ => 0)), .inl (cT 0, 5, .inl (fun _ => 0)), .inl (cT 0, 5, .inl (fun _ => 0)), .inl (cT 0, 5, .inl (fun _ => 0)), .inl (cT 0, 40, .inl (fun _ => 0)), .inr (7, [.ref (b + 121), .null, .ref (b + 123), .ref (b + 124), .int 0, .ref (b + 125), .ref (b + 126), .ref (b + 127), .ref (b + 128), .ref (b + 129), .int 0]), .inr (0, [.ref (b + 122)]), .inl (cT 0, 58, .inl (upd (fun _ => 0) 2 (-1))), .inl (cT 0, 40, .inl (fun _ => 0)), .inl (cT 0, 5, .inl (fun _ => 0)), .inl (cT 0, 8, .inl (fun _ => 0)), .inl (cT 0, 5, .inl (fun _ => 0)), .inl (cT 0, 5, .inl (fun _ => 0)), .inl (cT 0, 8, .inl (fun _ => 0)), .inl (cT 0, 5, .inl (fun _ => 0))]) H := hP
  have hz : Array.size H = b + 130 := hY.2
  refine W.widen (k := 129) (n := 4791) (Nat.le_of_ble_eq_true rfl) (Nat.le_of_ble_eq_true rfl) ?_
  refine gb_putF (ci := 9) (v := (.ref (b + 120))) (ty := .object "GooseBorder$Sharing") (C := RX11) (T := TX11) (N := 10) hx hb hq i_X11 tyX11 tyX11_ok nmX11 hown hK hP (fun k _ => Nat.le_add_right b k) hS hz 0 rfl rfl 7 (by decide) (hq _ w_322) (fun _ h9 => h9) rfl hin rfl (by decide +kernel) rfl rfl (Nat.le_of_ble_eq_true rfl) dX11_init_149 (fun H locs hP hz hS => ?_)
  have hP : va_P D vwCl (gb_wl b [.inr (9, [.ref (b + 1), .ref (b + 24), .ref (b + 94), .ref (b + 95), .ref (b + 104), .ref (b + 106), .ref (b + 109), .ref (b + 120), .null, .int 0]), .inr (8, [.ref (b + 2), .ref (b + 7), .ref (b + 12), .ref (b + 17), .ref (b + 22), .ref (b + 23), .int 0, .int 0, .int (-1)]), .inl (cT 4, 2, .inr (.inr (.inr (.inr (va_up (va_up (fun _ => none) 0 (some (b + 3))) 1 (some (b + 5))))))), .inr (0, [.ref (b + 4)]), .inl (cT 0, 58, .inl (upd (fun _ => 0) 2 (-1))), .inr (0, [.ref (b + 6)]), .inl (cT 0, 58, .inl (upd (fun _ => 0) 2 (-1))), .inl (cT 5, 2, .inr (.inr (.inr (.inr (va_up (va_up (fun _ => none) 0 (some (b + 8))) 1 (some (b + 10))))))), .inr (4, [.int 24, .int 3, .int 3, .ref (b + 9)]), .inl (cT 0, 97, .inl (fun _ => 0)), .inr (4, [.int 24, .int 3, .int 3, .ref (b + 11)]), .inl (cT 0, 97, .inl (fun _ => 0)), .inl (cT 6, 2, .inr (.inr (.inr (.inr (va_up (va_up (fun _ => none) 0 (some (b + 13))) 1 (some (b + 15))))))), .inr (3, [.int 8, .int 2, .int 12, .ref (b + 14)]), .inl (cT 0, 25, .inl (fun _ => 0)), .inr (3, [.int 8, .int 2, .int 12, .ref (b + 16)]), .inl (cT 0, 25, .inl (fun _ => 0)), .inl (cT 7, 2, .inr (.inr (.inr (.inr (va_up (va_up (fun _ => none) 0 (some (b + 18))) 1 (some (b + 20))))))), .inr (1, [.int 5, .int 2, .int 17, .ref (b + 19)]), .inl (cT 0, 16, .inl (fun _ => 0)), .inr (1, [.int 5, .int 2, .int 17, .ref (b + 21)]), .inl (cT 0, 16, .inl (fun _ => 0)), .inl (cT 0, 4, .inl (fun _ => 0)), .inl (cT 1, 600, .inl (fun _ => 0)), .inl (cT 8, 3, .inr (.inr (.inr (.inr (va_up (va_up (va_up (fun _ => none) 0 (some (b + 25))) 1 (some (b + 48))) 2 (some (b + 71))))))), .inr (8, [.ref (b + 26), .ref (b + 31), .ref (b + 36), .ref (b + 41), .ref (b + 46), .ref (b + 47), .int 0, .int 0, .int (-1)]), .inl (cT 4, 2, .inr (.inr (.inr (.inr (va_up (va_up (fun _ => none) 0 (some (b + 27))) 1 (some (b + 29))))))), .inr (0, [.ref (b + 28)]), .inl (cT 0, 58, .inl (upd (fun _ => 0) 2 (-1))), .inr (0, [.ref (b + 30)]), .inl (cT 0, 58, .inl (upd (fun _ => 0) 2 (-1))), .inl (cT 5, 2, .inr (.inr (.inr (.inr (va_up (va_up (fun _ => none) 0 (some (b + 32))) 1 (some (b + 34))))))), .inr (4, [.int 24, .int 3, .int 3, .ref (b + 33)]), .inl (cT 0, 97, .inl (fun _ => 0)), .inr (4, [.int 24, .int 3, .int 3, .ref (b + 35)]), .inl (cT 0, 97, .inl (fun _ => 0)), .inl (cT 6, 2, .inr (.inr (.inr (.inr (va_up (va_up (fun _ => none) 0 (some (b + 37))) 1 (some (b + 39))))))), .inr (3, [.int 8, .int 2, .int 12, .ref (b + 38)]), .inl (cT 0, 25, .inl (fun _ => 0)), .inr (3, [.int 8, .int 2, .int 12, .ref (b + 40)]), .inl (cT 0, 25, .inl (fun _ => 0)), .inl (cT 7, 2, .inr (.inr (.inr (.inr (va_up (va_up (fun _ => none) 0 (some (b + 42))) 1 (some (b + 44))))))), .inr (1, [.int 5, .int 2, .int 17, .ref (b + 43)]), .inl (cT 0, 16, .inl (fun _ => 0)), .inr (1, [.int 5, .int 2, .int 17, .ref (b + 45)]), .inl (cT 0, 16, .inl (fun _ => 0)), .inl (cT 0, 4, .inl (fun _ => 0)), .inl (cT 1, 600, .inl (fun _ => 0)), .inr (8, [.ref (b + 49), .ref (b + 54), .ref (b + 59), .ref (b + 64), .ref (b + 69), .ref (b + 70), .int 0, .int 0, .int (-1)]), .inl (cT 4, 2, .inr (.inr (.inr (.inr (va_up (va_up (fun _ => none) 0 (some (b + 50))) 1 (some (b + 52))))))), .inr (0, [.ref (b + 51)]), .inl (cT 0, 58, .inl (upd (fun _ => 0) 2 (-1))), .inr (0, [.ref (b + 53)]), .inl (cT 0, 58, .inl (upd (fun _ => 0) 2 (-1))), .inl (cT 5, 2, .inr (.inr (.inr (.inr (va_up (va_up (fun _ => none) 0 (some (b + 55))) 1 (some (b + 57))))))), .inr (4, [.int 24, .int 3, .int 3, .ref (b + 56)]), .inl (cT 0, 97, .inl (fun _ => 0)), .inr (4, [.int 24, .int 3, .int 3, .ref (b + 58)]), .inl (cT 0, 97, .inl (fun _ => 0)), .inl (cT 6, 2, .inr (.inr (.inr (.inr (va_up (va_up (fun _ => none) 0 (some (b + 60))) 1 (some (b + 62))))))), .inr (3, [.int 8, .int 2, .int 12, .ref (b + 61)]), .inl (cT 0, 25, .inl (fun _ => 0)), .inr (3, [.int 8, .int 2, .int 12, .ref (b + 63)]), .inl (cT 0, 25, .inl (fun _ => 0)), .inl (cT 7, 2, .inr (.inr (.inr (.inr (va_up (va_up (fun _ => none) 0 (some (b + 65))) 1 (some (b + 67))))))), .inr (1, [.int 5, .int 2, .int 17, .ref (b + 66)]), .inl (cT 0, 16, .inl (fun _ => 0)), .inr (1, [.int 5, .int 2, .int 17, .ref (b + 68)]), .inl (cT 0, 16, .inl (fun _ => 0)), .inl (cT 0, 4, .inl (fun _ => 0)), .inl (cT 1, 600, .inl (fun _ => 0)), .inr (8, [.ref (b + 72), .ref (b + 77), .ref (b + 82), .ref (b + 87), .ref (b + 92), .ref (b + 93), .int 0, .int 0, .int (-1)]), .inl (cT 4, 2, .inr (.inr (.inr (.inr (va_up (va_up (fun _ => none) 0 (some (b + 73))) 1 (some (b + 75))))))), .inr (0, [.ref (b + 74)]), .inl (cT 0, 58, .inl (upd (fun _ => 0) 2 (-1))), .inr (0, [.ref (b + 76)]), .inl (cT 0, 58, .inl (upd (fun _ => 0) 2 (-1))), .inl (cT 5, 2, .inr (.inr (.inr (.inr (va_up (va_up (fun _ => none) 0 (some (b + 78))) 1 (some (b + 80))))))), .inr (4, [.int 24, .int 3, .int 3, .ref (b + 79)]), .inl (cT 0, 97, .inl (fun _ => 0)), .inr (4, [.int 24, .int 3, .int 3, .ref (b + 81)]), .inl (cT 0, 97, .inl (fun _ => 0)), .inl (cT 6, 2, .inr (.inr (.inr (.inr (va_up (va_up (fun _ => none) 0 (some (b + 83))) 1 (some (b + 85))))))), .inr (3, [.int 8, .int 2, .int 12, .ref (b + 84)]), .inl (cT 0, 25, .inl (fun _ => 0)), .inr (3, [.int 8, .int 2, .int 12, .ref (b + 86)]), .inl (cT 0, 25, .inl (fun _ => 0)), .inl (cT 7, 2, .inr (.inr (.inr (.inr (va_up (va_up (fun _ => none) 0 (some (b + 88))) 1 (some (b + 90))))))), .inr (1, [.int 5, .int 2, .int 17, .ref (b + 89)]), .inl (cT 0, 16, .inl (fun _ => 0)), .inr (1, [.int 5, .int 2, .int 17, .ref (b + 91)]), .inl (cT 0, 16, .inl (fun _ => 0)), .inl (cT 0, 4, .inl (fun _ => 0)), .inl (cT 1, 600, .inl (fun _ => 0)), .inl (cT 2, 3, .inl (fun _ => 0)), .inl (cT 9, 4, .inr (.inr (.inr (.inr (va_up (va_up (va_up (va_up (fun _ => none) 0 (some (b + 96))) 1 (some (b + 98))) 2 (some (b + 100))) 3 (some (b + 102))))))), .inr (0, [.ref (b + 97)]), .inl (cT 0, 58, .inl (upd (fun _ => 0) 2 (-1))), .inr (4, [.int 24, .int 3, .int 3, .ref (b + 99)]), .inl (cT 0, 97, .inl (fun _ => 0)), .inr (3, [.int 8, .int 2, .int 12, .ref (b + 101)]), .inl (cT 0, 25, .inl (fun _ => 0)), .inr (1, [.int 5, .int 2, .int 17, .ref (b + 103)]), .inl (cT 0, 16, .inl (fun _ => 0)), .inr (4, [.int 24, .int 3, .int 3, .ref (b + 105)]), .inl (cT 0, 97, .inl (fun _ => 0)), .inr (6, [.ref (b + 107), .ref (b + 108), .int 0, .int 0, .int 0, .int 0]), .inl (cT 0, 5, .inl (fun _ => 0)), .inl (cT 1, 0, .inl (fun _ => 0)), .inr (5, [.ref (b + 110), .ref (b + 112), .ref (b + 113), .ref (b + 114), .ref (b + 115), .ref (b + 116), .ref (b + 117), .ref (b + 118), .ref (b + 119), .int 0, .int 0, .int 0]), .inr (0, [.ref (b + 111)]), .inl (cT 0, 58, .inl (upd (fun _ => 0) 2 (-1))), .inl (cT 0, 8, .inl (fun _ => 0)), .inl (cT 0, 8, .inl (fun _ => 0)), .inl (cT 0, 8, .inl (fun _ => 0)), .inl (cT 0, 8, .inl (fun _ => 0)), .inl (cT 0, 5, .inl (fun _ => 0)), .inl (cT 0, 5, .inl (fun _ => 0)), .inl (cT 0, 5, .inl (fun _ => 0)), .inl (cT 0, 40, .inl (fun _ => 0)), .inr (7, [.ref (b + 121), .null, .ref (b + 123), .ref (b + 124), .int 0, .ref (b + 125), .ref (b + 126), .ref (b + 127), .ref (b + 128), .ref (b + 129), .int 0]), .inr (0, [.ref (b + 122)]), .inl (cT 0, 58, .inl (upd (fun _ => 0) 2 (-1))), .inl (cT 0, 40, .inl (fun _ => 0)), .inl (cT 0, 5, .inl (fun _ => 0)), .inl (cT 0, 8, .inl (fun _ => 0)), .inl (cT 0, 5, .inl (fun _ => 0)), .inl (cT 0, 5, .inl (fun _ => 0)), .inl (cT 0, 8, .inl (fun _ => 0)), .inl (cT 0, 5, .inl (fun _ => 0))]) H := hP
  refine lv_aload_n hx hb dX11_init_152 rfl (lv_at hl 0 rfl) ?_
  refine gb_new (ci := 2) (fs := [.null, .null, .null, .null, .int 0, .int 0]) (C := RX2) (T := TX2) (N := 6) hx hb hq i_X2 tyX2 tyX2_ok hown (hq _ w_288) (hq _ w_289) (hq _ w_13) hK hP hS 130 hz rfl rfl (fun j hj => by rcases (show j = 0 ∨ j = 1 ∨ j = 2 ∨ j = 3 ∨ j = 4 ∨ j = 5 by omega) with rfl | rfl | rfl | rfl | rfl | rfl <;> rfl) (Nat.le_of_ble_eq_true rfl) (Nat.le_of_ble_eq_true rfl) dX11_init_153 (fun H hP hz hS => ?_)
  have hP : va_P D vwCl (gb_wl b [.inr (9, [.ref (b + 1), .ref (b + 24), .ref (b + 94), .ref (b + 95), .ref (b + 104), .ref (b + 106), .ref (b + 109), .ref (b + 120), .null, .int 0]), .inr (8, [.ref (b + 2), .ref (b + 7), .ref (b + 12), .ref (b + 17), .ref (b + 22), .ref (b + 23), .int 0, .int 0, .int (-1)]), .inl (cT 4, 2, .inr (.inr (.inr (.inr (va_up (va_up (fun _ => none) 0 (some (b + 3))) 1 (some (b + 5))))))), .inr (0, [.ref (b + 4)]), .inl (cT 0, 58, .inl (upd (fun _ => 0) 2 (-1))), .inr (0, [.ref (b + 6)]), .inl (cT 0, 58, .inl (upd (fun _ => 0) 2 (-1))), .inl (cT 5, 2, .inr (.inr (.inr (.inr (va_up (va_up (fun _ => none) 0 (some (b + 8))) 1 (some (b + 10))))))), .inr (4, [.int 24, .int 3, .int 3, .ref (b + 9)]), .inl (cT 0, 97, .inl (fun _ => 0)), .inr (4, [.int 24, .int 3, .int 3, .ref (b + 11)]), .inl (cT 0, 97, .inl (fun _ => 0)), .inl (cT 6, 2, .inr (.inr (.inr (.inr (va_up (va_up (fun _ => none) 0 (some (b + 13))) 1 (some (b + 15))))))), .inr (3, [.int 8, .int 2, .int 12, .ref (b + 14)]), .inl (cT 0, 25, .inl (fun _ => 0)), .inr (3, [.int 8, .int 2, .int 12, .ref (b + 16)]), .inl (cT 0, 25, .inl (fun _ => 0)), .inl (cT 7, 2, .inr (.inr (.inr (.inr (va_up (va_up (fun _ => none) 0 (some (b + 18))) 1 (some (b + 20))))))), .inr (1, [.int 5, .int 2, .int 17, .ref (b + 19)]), .inl (cT 0, 16, .inl (fun _ => 0)), .inr (1, [.int 5, .int 2, .int 17, .ref (b + 21)]), .inl (cT 0, 16, .inl (fun _ => 0)), .inl (cT 0, 4, .inl (fun _ => 0)), .inl (cT 1, 600, .inl (fun _ => 0)), .inl (cT 8, 3, .inr (.inr (.inr (.inr (va_up (va_up (va_up (fun _ => none) 0 (some (b + 25))) 1 (some (b + 48))) 2 (some (b + 71))))))), .inr (8, [.ref (b + 26), .ref (b + 31), .ref (b + 36), .ref (b + 41), .ref (b + 46), .ref (b + 47), .int 0, .int 0, .int (-1)]), .inl (cT 4, 2, .inr (.inr (.inr (.inr (va_up (va_up (fun _ => none) 0 (some (b + 27))) 1 (some (b + 29))))))), .inr (0, [.ref (b + 28)]), .inl (cT 0, 58, .inl (upd (fun _ => 0) 2 (-1))), .inr (0, [.ref (b + 30)]), .inl (cT 0, 58, .inl (upd (fun _ => 0) 2 (-1))), .inl (cT 5, 2, .inr (.inr (.inr (.inr (va_up (va_up (fun _ => none) 0 (some (b + 32))) 1 (some (b + 34))))))), .inr (4, [.int 24, .int 3, .int 3, .ref (b + 33)]), .inl (cT 0, 97, .inl (fun _ => 0)), .inr (4, [.int 24, .int 3, .int 3, .ref (b + 35)]), .inl (cT 0, 97, .inl (fun _ => 0)), .inl (cT 6, 2, .inr (.inr (.inr (.inr (va_up (va_up (fun _ => none) 0 (some (b + 37))) 1 (some (b + 39))))))), .inr (3, [.int 8, .int 2, .int 12, .ref (b + 38)]), .inl (cT 0, 25, .inl (fun _ => 0)), .inr (3, [.int 8, .int 2, .int 12, .ref (b + 40)]), .inl (cT 0, 25, .inl (fun _ => 0)), .inl (cT 7, 2, .inr (.inr (.inr (.inr (va_up (va_up (fun _ => none) 0 (some (b + 42))) 1 (some (b + 44))))))), .inr (1, [.int 5, .int 2, .int 17, .ref (b + 43)]), .inl (cT 0, 16, .inl (fun _ => 0)), .inr (1, [.int 5, .int 2, .int 17, .ref (b + 45)]), .inl (cT 0, 16, .inl (fun _ => 0)), .inl (cT 0, 4, .inl (fun _ => 0)), .inl (cT 1, 600, .inl (fun _ => 0)), .inr (8, [.ref (b + 49), .ref (b + 54), .ref (b + 59), .ref (b + 64), .ref (b + 69), .ref (b + 70), .int 0, .int 0, .int (-1)]), .inl (cT 4, 2, .inr (.inr (.inr (.inr (va_up (va_up (fun _ => none) 0 (some (b + 50))) 1 (some (b + 52))))))), .inr (0, [.ref (b + 51)]), .inl (cT 0, 58, .inl (upd (fun _ => 0) 2 (-1))), .inr (0, [.ref (b + 53)]), .inl (cT 0, 58, .inl (upd (fun _ => 0) 2 (-1))), .inl (cT 5, 2, .inr (.inr (.inr (.inr (va_up (va_up (fun _ => none) 0 (some (b + 55))) 1 (some (b + 57))))))), .inr (4, [.int 24, .int 3, .int 3, .ref (b + 56)]), .inl (cT 0, 97, .inl (fun _ => 0)), .inr (4, [.int 24, .int 3, .int 3, .ref (b + 58)]), .inl (cT 0, 97, .inl (fun _ => 0)), .inl (cT 6, 2, .inr (.inr (.inr (.inr (va_up (va_up (fun _ => none) 0 (some (b + 60))) 1 (some (b + 62))))))), .inr (3, [.int 8, .int 2, .int 12, .ref (b + 61)]), .inl (cT 0, 25, .inl (fun _ => 0)), .inr (3, [.int 8, .int 2, .int 12, .ref (b + 63)]), .inl (cT 0, 25, .inl (fun _ => 0)), .inl (cT 7, 2, .inr (.inr (.inr (.inr (va_up (va_up (fun _ => none) 0 (some (b + 65))) 1 (some (b + 67))))))), .inr (1, [.int 5, .int 2, .int 17, .ref (b + 66)]), .inl (cT 0, 16, .inl (fun _ => 0)), .inr (1, [.int 5, .int 2, .int 17, .ref (b + 68)]), .inl (cT 0, 16, .inl (fun _ => 0)), .inl (cT 0, 4, .inl (fun _ => 0)), .inl (cT 1, 600, .inl (fun _ => 0)), .inr (8, [.ref (b + 72), .ref (b + 77), .ref (b + 82), .ref (b + 87), .ref (b + 92), .ref (b + 93), .int 0, .int 0, .int (-1)]), .inl (cT 4, 2, .inr (.inr (.inr (.inr (va_up (va_up (fun _ => none) 0 (some (b + 73))) 1 (some (b + 75))))))), .inr (0, [.ref (b + 74)]), .inl (cT 0, 58, .inl (upd (fun _ => 0) 2 (-1))), .inr (0, [.ref (b + 76)]), .inl (cT 0, 58, .inl (upd (fun _ => 0) 2 (-1))), .inl (cT 5, 2, .inr (.inr (.inr (.inr (va_up (va_up (fun _ => none) 0 (some (b + 78))) 1 (some (b + 80))))))), .inr (4, [.int 24, .int 3, .int 3, .ref (b + 79)]), .inl (cT 0, 97, .inl (fun _ => 0)), .inr (4, [.int 24, .int 3, .int 3, .ref (b + 81)]), .inl (cT 0, 97, .inl (fun _ => 0)), .inl (cT 6, 2, .inr (.inr (.inr (.inr (va_up (va_up (fun _ => none) 0 (some (b + 83))) 1 (some (b + 85))))))), .inr (3, [.int 8, .int 2, .int 12, .ref (b + 84)]), .inl (cT 0, 25, .inl (fun _ => 0)), .inr (3, [.int 8, .int 2, .int 12, .ref (b + 86)]), .inl (cT 0, 25, .inl (fun _ => 0)), .inl (cT 7, 2, .inr (.inr (.inr (.inr (va_up (va_up (fun _ => none) 0 (some (b + 88))) 1 (some (b + 90))))))), .inr (1, [.int 5, .int 2, .int 17, .ref (b + 89)]), .inl (cT 0, 16, .inl (fun _ => 0)), .inr (1, [.int 5, .int 2, .int 17, .ref (b + 91)]), .inl (cT 0, 16, .inl (fun _ => 0)), .inl (cT 0, 4, .inl (fun _ => 0)), .inl (cT 1, 600, .inl (fun _ => 0)), .inl (cT 2, 3, .inl (fun _ => 0)), .inl (cT 9, 4, .inr (.inr (.inr (.inr (va_up (va_up (va_up (va_up (fun _ => none) 0 (some (b + 96))) 1 (some (b + 98))) 2 (some (b + 100))) 3 (some (b + 102))))))), .inr (0, [.ref (b + 97)]), .inl (cT 0, 58, .inl (upd (fun _ => 0) 2 (-1))), .inr (4, [.int 24, .int 3, .int 3, .ref (b + 99)]), .inl (cT 0, 97, .inl (fun _ => 0)), .inr (3, [.int 8, .int 2, .int 12, .ref (b + 101)]), .inl (cT 0, 25, .inl (fun _ => 0)), .inr (1, [.int 5, .int 2, .int 17, .ref (b + 103)]), .inl (cT 0, 16, .inl (fun _ => 0)), .inr (4, [.int 24, .int 3, .int 3, .ref (b + 105)]), .inl (cT 0, 97, .inl (fun _ => 0)), .inr (6, [.ref (b + 107), .ref (b + 108), .int 0, .int 0, .int 0, .int 0]), .inl (cT 0, 5, .inl (fun _ => 0)), .inl (cT 1, 0, .inl (fun _ => 0)), .inr (5, [.ref (b + 110), .ref (b + 112), .ref (b + 113), .ref (b + 114), .ref (b + 115), .ref (b + 116), .ref (b + 117), .ref (b + 118), .ref (b + 119), .int 0, .int 0, .int 0]), .inr (0, [.ref (b + 111)]), .inl (cT 0, 58, .inl (upd (fun _ => 0) 2 (-1))), .inl (cT 0, 8, .inl (fun _ => 0)), .inl (cT 0, 8, .inl (fun _ => 0)), .inl (cT 0, 8, .inl (fun _ => 0)), .inl (cT 0, 8, .inl (fun _ => 0)), .inl (cT 0, 5, .inl (fun _ => 0)), .inl (cT 0, 5, .inl (fun _ => 0)), .inl (cT 0, 5, .inl (fun _ => 0)), .inl (cT 0, 40, .inl (fun _ => 0)), .inr (7, [.ref (b + 121), .null, .ref (b + 123), .ref (b + 124), .int 0, .ref (b + 125), .ref (b + 126), .ref (b + 127), .ref (b + 128), .ref (b + 129), .int 0]), .inr (0, [.ref (b + 122)]), .inl (cT 0, 58, .inl (upd (fun _ => 0) 2 (-1))), .inl (cT 0, 40, .inl (fun _ => 0)), .inl (cT 0, 5, .inl (fun _ => 0)), .inl (cT 0, 8, .inl (fun _ => 0)), .inl (cT 0, 5, .inl (fun _ => 0)), .inl (cT 0, 5, .inl (fun _ => 0)), .inl (cT 0, 8, .inl (fun _ => 0)), .inl (cT 0, 5, .inl (fun _ => 0)), .inr (2, [.null, .null, .null, .null, .int 0, .int 0])]) H := hP
  refine W.widen (k := 130) (n := 4797) (Nat.le_of_ble_eq_true rfl) (Nat.le_of_ble_eq_true rfl) ?_
  refine lv_dup hx hb dX11_init_156 rfl ?_
  have hPc := gb_drop hP 130 (suf := [.inr (2, [.null, .null, .null, .null, .int 0, .int 0])]) rfl rfl
  refine gb_callv (va_runIN (As := []) (rest := [.ref (b + 130), .ref (b + 0)]) ⟨hx, hb, hml, hown, hq⟩ (k_X2_init l D cT tt b1 (b + 130) (Nat.le_trans hb1 (Nat.le_add_right b 130))) (⟨va_cnB 0 hq (gb_gI w_292) rfl rfl rfl (hSt.2.1 _ gb_n290) (hq _ w_13) (by decide +kernel) ⟨Nat.le_of_ble_eq_true rfl, Nat.le_of_ble_eq_true rfl⟩, rfl, hq _ w_291⟩) (gb_preS hSt hS (fun q h => Nat.le_trans hb1 h) (show va_P D vwCl (gb_wl (b + 130) [.inr (2, [.null, .null, .null, .null, .int 0, .int 0])]) H ∧ Array.size H = b + 130 + 1 from ⟨hPc, hz⟩)) rfl rfl hl.1 rfl (lv_room (Nat.le_of_ble_eq_true rfl)) dX11_init_157 ⟨Nat.le_of_ble_eq_true rfl, Nat.le_of_ble_eq_true rfl⟩) hS (fun q h => Nat.le_trans (Nat.le_add_right b 130) h) (fun q h => Nat.le_trans (Nat.le_add_right b 130) h) (fun H locs hY hk hS => ?_)
  have hP := gb_glue hP 130 (pre := [.inr (9, [.ref (b + 1), .ref (b + 24), .ref (b + 94), .ref (b + 95), .ref (b + 104), .ref (b + 106), .ref (b + 109), .ref (b + 120), .null, .int 0]), .inr (8, [.ref (b + 2), .ref (b + 7), .ref (b + 12), .ref (b + 17), .ref (b + 22), .ref (b + 23), .int 0, .int 0, .int (-1)]), .inl (cT 4, 2, .inr (.inr (.inr (.inr (va_up (va_up (fun _ => none) 0 (some (b + 3))) 1 (some (b + 5))))))), .inr (0, [.ref (b + 4)]), .inl (cT 0, 58, .inl (upd (fun _ => 0) 2 (-1))), .inr (0, [.ref (b + 6)]), .inl (cT 0, 58, .inl (upd (fun _ => 0) 2 (-1))), .inl (cT 5, 2, .inr (.inr (.inr (.inr (va_up (va_up (fun _ => none) 0 (some (b + 8))) 1 (some (b + 10))))))), .inr (4, [.int 24, .int 3, .int 3, .ref (b + 9)]), .inl (cT 0, 97, .inl (fun _ => 0)), .inr (4, [.int 24, .int 3, .int 3, .ref (b + 11)]), .inl (cT 0, 97, .inl (fun _ => 0)), .inl (cT 6, 2, .inr (.inr (.inr (.inr (va_up (va_up (fun _ => none) 0 (some (b + 13))) 1 (some (b + 15))))))), .inr (3, [.int 8, .int 2, .int 12, .ref (b + 14)]), .inl (cT 0, 25, .inl (fun _ => 0)), .inr (3, [.int 8, .int 2, .int 12, .ref (b + 16)]), .inl (cT 0, 25, .inl (fun _ => 0)), .inl (cT 7, 2, .inr (.inr (.inr (.inr (va_up (va_up (fun _ => none) 0 (some (b + 18))) 1 (some (b + 20))))))), .inr (1, [.int 5, .int 2, .int 17, .ref (b + 19)]), .inl (cT 0, 16, .inl (fun _ => 0)), .inr (1, [.int 5, .int 2, .int 17, .ref (b + 21)]), .inl (cT 0, 16, .inl (fun _ => 0)), .inl (cT 0, 4, .inl (fun _ => 0)), .inl (cT 1, 600, .inl (fun _ => 0)), .inl (cT 8, 3, .inr (.inr (.inr (.inr (va_up (va_up (va_up (fun _ => none) 0 (some (b + 25))) 1 (some (b + 48))) 2 (some (b + 71))))))), .inr (8, [.ref (b + 26), .ref (b + 31), .ref (b + 36), .ref (b + 41), .ref (b + 46), .ref (b + 47), .int 0, .int 0, .int (-1)]), .inl (cT 4, 2, .inr (.inr (.inr (.inr (va_up (va_up (fun _ => none) 0 (some (b + 27))) 1 (some (b + 29))))))), .inr (0, [.ref (b + 28)]), .inl (cT 0, 58, .inl (upd (fun _ => 0) 2 (-1))), .inr (0, [.ref (b + 30)]), .inl (cT 0, 58, .inl (upd (fun _ => 0) 2 (-1))), .inl (cT 5, 2, .inr (.inr (.inr (.inr (va_up (va_up (fun _ => none) 0 (some (b + 32))) 1 (some (b + 34))))))), .inr (4, [.int 24, .int 3, .int 3, .ref (b + 33)]), .inl (cT 0, 97, .inl (fun _ => 0)), .inr (4, [.int 24, .int 3, .int 3, .ref (b + 35)]), .inl (cT 0, 97, .inl (fun _ => 0)), .inl (cT 6, 2, .inr (.inr (.inr (.inr (va_up (va_up (fun _ => none) 0 (some (b + 37))) 1 (some (b + 39))))))), .inr (3, [.int 8, .int 2, .int 12, .ref (b + 38)]), .inl (cT 0, 25, .inl (fun _ => 0)), .inr (3, [.int 8, .int 2, .int 12, .ref (b + 40)]), .inl (cT 0, 25, .inl (fun _ => 0)), .inl (cT 7, 2, .inr (.inr (.inr (.inr (va_up (va_up (fun _ => none) 0 (some (b + 42))) 1 (some (b + 44))))))), .inr (1, [.int 5, .int 2, .int 17, .ref (b + 43)]), .inl (cT 0, 16, .inl (fun _ => 0)), .inr (1, [.int 5, .int 2, .int 17, .ref (b + 45)]), .inl (cT 0, 16, .inl (fun _ => 0)), .inl (cT 0, 4, .inl (fun _ => 0)), .inl (cT 1, 600, .inl (fun _ => 0)), .inr (8, [.ref (b + 49), .ref (b + 54), .ref (b + 59), .ref (b + 64), .ref (b + 69), .ref (b + 70), .int 0, .int 0, .int (-1)]), .inl (cT 4, 2, .inr (.inr (.inr (.inr (va_up (va_up (fun _ => none) 0 (some (b + 50))) 1 (some (b + 52))))))), .inr (0, [.ref (b + 51)]), .inl (cT 0, 58, .inl (upd (fun _ => 0) 2 (-1))), .inr (0, [.ref (b + 53)]), .inl (cT 0, 58, .inl (upd (fun _ => 0) 2 (-1))), .inl (cT 5, 2, .inr (.inr (.inr (.inr (va_up (va_up (fun _ => none) 0 (some (b + 55))) 1 (some (b + 57))))))), .inr (4, [.int 24, .int 3, .int 3, .ref (b + 56)]), .inl (cT 0, 97, .inl (fun _ => 0)), .inr (4, [.int 24, .int 3, .int 3, .ref (b + 58)]), .inl (cT 0, 97, .inl (fun _ => 0)), .inl (cT 6, 2, .inr (.inr (.inr (.inr (va_up (va_up (fun _ => none) 0 (some (b + 60))) 1 (some (b + 62))))))), .inr (3, [.int 8, .int 2, .int 12, .ref (b + 61)]), .inl (cT 0, 25, .inl (fun _ => 0)), .inr (3, [.int 8, .int 2, .int 12, .ref (b + 63)]), .inl (cT 0, 25, .inl (fun _ => 0)), .inl (cT 7, 2, .inr (.inr (.inr (.inr (va_up (va_up (fun _ => none) 0 (some (b + 65))) 1 (some (b + 67))))))), .inr (1, [.int 5, .int 2, .int 17, .ref (b + 66)]), .inl (cT 0, 16, .inl (fun _ => 0)), .inr (1, [.int 5, .int 2, .int 17, .ref (b + 68)]), .inl (cT 0, 16, .inl (fun _ => 0)), .inl (cT 0, 4, .inl (fun _ => 0)), .inl (cT 1, 600, .inl (fun _ => 0)), .inr (8, [.ref (b + 72), .ref (b + 77), .ref (b + 82), .ref (b + 87), .ref (b + 92), .ref (b + 93), .int 0, .int 0, .int (-1)]), .inl (cT 4, 2, .inr (.inr (.inr (.inr (va_up (va_up (fun _ => none) 0 (some (b + 73))) 1 (some (b + 75))))))), .inr (0, [.ref (b + 74)]), .inl (cT 0, 58, .inl (upd (fun _ => 0) 2 (-1))), .inr (0, [.ref (b + 76)]), .inl (cT 0, 58, .inl (upd (fun _ => 0) 2 (-1))), .inl (cT 5, 2, .inr (.inr (.inr (.inr (va_up (va_up (fun _ => none) 0 (some (b + 78))) 1 (some (b + 80))))))), .inr (4, [.int 24, .int 3, .int 3, .ref (b + 79)]), .inl (cT 0, 97, .inl (fun _ => 0)), .inr (4, [.int 24, .int 3, .int 3, .ref (b + 81)]), .inl (cT 0, 97, .inl (fun _ => 0)), .inl (cT 6, 2, .inr (.inr (.inr (.inr (va_up (va_up (fun _ => none) 0 (some (b + 83))) 1 (some (b + 85))))))), .inr (3, [.int 8, .int 2, .int 12, .ref (b + 84)]), .inl (cT 0, 25, .inl (fun _ => 0)), .inr (3, [.int 8, .int 2, .int 12, .ref (b + 86)]), .inl (cT 0, 25, .inl (fun _ => 0)), .inl (cT 7, 2, .inr (.inr (.inr (.inr (va_up (va_up (fun _ => none) 0 (some (b + 88))) 1 (some (b + 90))))))), .inr (1, [.int 5, .int 2, .int 17, .ref (b + 89)]), .inl (cT 0, 16, .inl (fun _ => 0)), .inr (1, [.int 5, .int 2, .int 17, .ref (b + 91)]), .inl (cT 0, 16, .inl (fun _ => 0)), .inl (cT 0, 4, .inl (fun _ => 0)), .inl (cT 1, 600, .inl (fun _ => 0)), .inl (cT 2, 3, .inl (fun _ => 0)), .inl (cT 9, 4, .inr (.inr (.inr (.inr (va_up (va_up (va_up (va_up (fun _ => none) 0 (some (b + 96))) 1 (some (b + 98))) 2 (some (b + 100))) 3 (some (b + 102))))))), .inr (0, [.ref (b + 97)]), .inl (cT 0, 58, .inl (upd (fun _ => 0) 2 (-1))), .inr (4, [.int 24, .int 3, .int 3, .ref (b + 99)]), .inl (cT 0, 97, .inl (fun _ => 0)), .inr (3, [.int 8, .int 2, .int 12, .ref (b + 101)]), .inl (cT 0, 25, .inl (fun _ => 0)), .inr (1, [.int 5, .int 2, .int 17, .ref (b + 103)]), .inl (cT 0, 16, .inl (fun _ => 0)), .inr (4, [.int 24, .int 3, .int 3, .ref (b + 105)]), .inl (cT 0, 97, .inl (fun _ => 0)), .inr (6, [.ref (b + 107), .ref (b + 108), .int 0, .int 0, .int 0, .int 0]), .inl (cT 0, 5, .inl (fun _ => 0)), .inl (cT 1, 0, .inl (fun _ => 0)), .inr (5, [.ref (b + 110), .ref (b + 112), .ref (b + 113), .ref (b + 114), .ref (b + 115), .ref (b + 116), .ref (b + 117), .ref (b + 118), .ref (b + 119), .int 0, .int 0, .int 0]), .inr (0, [.ref (b + 111)]), .inl (cT 0, 58, .inl (upd (fun _ => 0) 2 (-1))), .inl (cT 0, 8, .inl (fun _ => 0)), .inl (cT 0, 8, .inl (fun _ => 0)), .inl (cT 0, 8, .inl (fun _ => 0)), .inl (cT 0, 8, .inl (fun _ => 0)), .inl (cT 0, 5, .inl (fun _ => 0)), .inl (cT 0, 5, .inl (fun _ => 0)), .inl (cT 0, 5, .inl (fun _ => 0)), .inl (cT 0, 40, .inl (fun _ => 0)), .inr (7, [.ref (b + 121), .null, .ref (b + 123), .ref (b + 124), .int 0, .ref (b + 125), .ref (b + 126), .ref (b + 127), .ref (b + 128), .ref (b + 129), .int 0]), .inr (0, [.ref (b + 122)]), .inl (cT 0, 58, .inl (upd (fun _ => 0) 2 (-1))), .inl (cT 0, 40, .inl (fun _ => 0)), .inl (cT 0, 5, .inl (fun _ => 0)), .inl (cT 0, 8, .inl (fun _ => 0)), .inl (cT 0, 5, .inl (fun _ => 0)), .inl (cT 0, 5, .inl (fun _ => 0)), .inl (cT 0, 8, .inl (fun _ => 0)), .inl (cT 0, 5, .inl (fun _ => 0))]) rfl rfl hk hY.1
  have hP : va_P D vwCl (gb_wl b [.inr (9, [.ref (b + 1), .ref (b + 24), .ref (b + 94), .ref (b + 95), .ref (b + 104), .ref (b + 106), .ref (b + 109), .ref (b + 120), .null, .int 0]), .inr (8, [.ref (b + 2), .ref (b + 7), .ref (b + 12), .ref (b + 17), .ref (b + 22), .ref (b + 23), .int 0, .int 0, .int (-1)]), .inl (cT 4, 2, .inr (.inr (.inr (.inr (va_up (va_up (fun _ => none) 0 (some (b + 3))) 1 (some (b + 5))))))), .inr (0, [.ref (b + 4)]), .inl (cT 0, 58, .inl (upd (fun _ => 0) 2 (-1))), .inr (0, [.ref (b + 6)]), .inl (cT 0, 58, .inl (upd (fun _ => 0) 2 (-1))), .inl (cT 5, 2, .inr (.inr (.inr (.inr (va_up (va_up (fun _ => none) 0 (some (b + 8))) 1 (some (b + 10))))))), .inr (4, [.int 24, .int 3, .int 3, .ref (b + 9)]), .inl (cT 0, 97, .inl (fun _ => 0)), .inr (4, [.int 24, .int 3, .int 3, .ref (b + 11)]), .inl (cT 0, 97, .inl (fun _ => 0)), .inl (cT 6, 2, .inr (.inr (.inr (.inr (va_up (va_up (fun _ => none) 0 (some (b + 13))) 1 (some (b + 15))))))), .inr (3, [.int 8, .int 2, .int 12, .ref (b + 14)]), .inl (cT 0, 25, .inl (fun _ => 0)), .inr (3, [.int 8, .int 2, .int 12, .ref (b + 16)]), .inl (cT 0, 25, .inl (fun _ => 0)), .inl (cT 7, 2, .inr (.inr (.inr (.inr (va_up (va_up (fun _ => none) 0 (some (b + 18))) 1 (some (b + 20))))))), .inr (1, [.int 5, .int 2, .int 17, .ref (b + 19)]), .inl (cT 0, 16, .inl (fun _ => 0)), .inr (1, [.int 5, .int 2, .int 17, .ref (b + 21)]), .inl (cT 0, 16, .inl (fun _ => 0)), .inl (cT 0, 4, .inl (fun _ => 0)), .inl (cT 1, 600, .inl (fun _ => 0)), .inl (cT 8, 3, .inr (.inr (.inr (.inr (va_up (va_up (va_up (fun _ => none) 0 (some (b + 25))) 1 (some (b + 48))) 2 (some (b + 71))))))), .inr (8, [.ref (b + 26), .ref (b + 31), .ref (b + 36), .ref (b + 41), .ref (b + 46), .ref (b + 47), .int 0, .int 0, .int (-1)]), .inl (cT 4, 2, .inr (.inr (.inr (.inr (va_up (va_up (fun _ => none) 0 (some (b + 27))) 1 (some (b + 29))))))), .inr (0, [.ref (b + 28)]), .inl (cT 0, 58, .inl (upd (fun _ => 0) 2 (-1))), .inr (0, [.ref (b + 30)]), .inl (cT 0, 58, .inl (upd (fun _ => 0) 2 (-1))), .inl (cT 5, 2, .inr (.inr (.inr (.inr (va_up (va_up (fun _ => none) 0 (some (b + 32))) 1 (some (b + 34))))))), .inr (4, [.int 24, .int 3, .int 3, .ref (b + 33)]), .inl (cT 0, 97, .inl (fun _ => 0)), .inr (4, [.int 24, .int 3, .int 3, .ref (b + 35)]), .inl (cT 0, 97, .inl (fun _ => 0)), .inl (cT 6, 2, .inr (.inr (.inr (.inr (va_up (va_up (fun _ => none) 0 (some (b + 37))) 1 (some (b + 39))))))), .inr (3, [.int 8, .int 2, .int 12, .ref (b + 38)]), .inl (cT 0, 25, .inl (fun _ => 0)), .inr (3, [.int 8, .int 2, .int 12, .ref (b + 40)]), .inl (cT 0, 25, .inl (fun _ => 0)), .inl (cT 7, 2, .inr (.inr (.inr (.inr (va_up (va_up (fun _ => none) 0 (some (b + 42))) 1 (some (b + 44))))))), .inr (1, [.int 5, .int 2, .int 17, .ref (b + 43)]), .inl (cT 0, 16, .inl (fun _ => 0)), .inr (1, [.int 5, .int 2, .int 17, .ref (b + 45)]), .inl (cT 0, 16, .inl (fun _ => 0)), .inl (cT 0, 4, .inl (fun _ => 0)), .inl (cT 1, 600, .inl (fun _ => 0)), .inr (8, [.ref (b + 49), .ref (b + 54), .ref (b + 59), .ref (b + 64), .ref (b + 69), .ref (b + 70), .int 0, .int 0, .int (-1)]), .inl (cT 4, 2, .inr (.inr (.inr (.inr (va_up (va_up (fun _ => none) 0 (some (b + 50))) 1 (some (b + 52))))))), .inr (0, [.ref (b + 51)]), .inl (cT 0, 58, .inl (upd (fun _ => 0) 2 (-1))), .inr (0, [.ref (b + 53)]), .inl (cT 0, 58, .inl (upd (fun _ => 0) 2 (-1))), .inl (cT 5, 2, .inr (.inr (.inr (.inr (va_up (va_up (fun _ => none) 0 (some (b + 55))) 1 (some (b + 57))))))), .inr (4, [.int 24, .int 3, .int 3, .ref (b + 56)]), .inl (cT 0, 97, .inl (fun _ => 0)), .inr (4, [.int 24, .int 3, .int 3, .ref (b + 58)]), .inl (cT 0, 97, .inl (fun _ => 0)), .inl (cT 6, 2, .inr (.inr (.inr (.inr (va_up (va_up (fun _ => none) 0 (some (b + 60))) 1 (some (b + 62))))))), .inr (3, [.int 8, .int 2, .int 12, .ref (b + 61)]), .inl (cT 0, 25, .inl (fun _ => 0)), .inr (3, [.int 8, .int 2, .int 12, .ref (b + 63)]), .inl (cT 0, 25, .inl (fun _ => 0)), .inl (cT 7, 2, .inr (.inr (.inr (.inr (va_up (va_up (fun _ => none) 0 (some (b + 65))) 1 (some (b + 67))))))), .inr (1, [.int 5, .int 2, .int 17, .ref (b + 66)]), .inl (cT 0, 16, .inl (fun _ => 0)), .inr (1, [.int 5, .int 2, .int 17, .ref (b + 68)]), .inl (cT 0, 16, .inl (fun _ => 0)), .inl (cT 0, 4, .inl (fun _ => 0)), .inl (cT 1, 600, .inl (fun _ => 0)), .inr (8, [.ref (b + 72), .ref (b + 77), .ref (b + 82), .ref (b + 87), .ref (b + 92), .ref (b + 93), .int 0, .int 0, .int (-1)]), .inl (cT 4, 2, .inr (.inr (.inr (.inr (va_up (va_up (fun _ => none) 0 (some (b + 73))) 1 (some (b + 75))))))), .inr (0, [.ref (b + 74)]), .inl (cT 0, 58, .inl (upd (fun _ => 0) 2 (-1))), .inr (0, [.ref (b + 76)]), .inl (cT 0, 58, .inl (upd (fun _ => 0) 2 (-1))), .inl (cT 5, 2, .inr (.inr (.inr (.inr (va_up (va_up (fun _ => none) 0 (some (b + 78))) 1 (some (b + 80))))))), .inr (4, [.int 24, .int 3, .int 3, .ref (b + 79)]), .inl (cT 0, 97, .inl (fun _ => 0)), .inr (4, [.int 24, .int 3, .int 3, .ref (b + 81)]), .inl (cT 0, 97, .inl (fun _ => 0)), .inl (cT 6, 2, .inr (.inr (.inr (.inr (va_up (va_up (fun _ => none) 0 (some (b + 83))) 1 (some (b + 85))))))), .inr (3, [.int 8, .int 2, .int 12, .ref (b + 84)]), .inl (cT 0, 25, .inl (fun _ => 0)), .inr (3, [.int 8, .int 2, .int 12, .ref (b + 86)]), .inl (cT 0, 25, .inl (fun _ => 0)), .inl (cT 7, 2, .inr (.inr (.inr (.inr (va_up (va_up (fun _ => none) 0 (some (b + 88))) 1 (some (b + 90))))))), .inr (1, [.int 5, .int 2, .int 17, .ref (b + 89)]), .inl (cT 0, 16, .inl (fun _ => 0)), .inr (1, [.int 5, .int 2, .int 17, .ref (b + 91)]), .inl (cT 0, 16, .inl (fun _ => 0)), .inl (cT 0, 4, .inl (fun _ => 0)), .inl (cT 1, 600, .inl (fun _ => 0)), .inl (cT 2, 3, .inl (fun _ => 0)), .inl (cT 9, 4, .inr (.inr (.inr (.inr (va_up (va_up (va_up (va_up (fun _ => none) 0 (some (b + 96))) 1 (some (b + 98))) 2 (some (b + 100))) 3 (some (b + 102))))))), .inr (0, [.ref (b + 97)]), .inl (cT 0, 58, .inl (upd (fun _ => 0) 2 (-1))), .inr (4, [.int 24, .int 3, .int 3, .ref (b + 99)]), .inl (cT 0, 97, .inl (fun _ => 0)), .inr (3, [.int 8, .int 2, .int 12, .ref (b + 101)]), .inl (cT 0, 25, .inl (fun _ => 0)), .inr (1, [.int 5, .int 2, .int 17, .ref (b + 103)]), .inl (cT 0, 16, .inl (fun _ => 0)), .inr (4, [.int 24, .int 3, .int 3, .ref (b + 105)]), .inl (cT 0, 97, .inl (fun _ => 0)), .inr (6, [.ref (b + 107), .ref (b + 108), .int 0, .int 0, .int 0, .int 0]), .inl (cT 0, 5, .inl (fun _ => 0)), .inl (cT 1, 0, .inl (fun _ => 0)), .inr (5, [.ref (b + 110), .ref (b + 112), .ref (b + 113), .ref (b + 114), .ref (b + 115), .ref (b + 116), .ref (b + 117), .ref (b + 118), .ref (b + 119), .int 0, .int 0, .int 0]), .inr (0, [.ref (b + 111)]), .inl (cT 0, 58, .inl (upd (fun _ => 0) 2 (-1))), .inl (cT 0, 8, .inl (fun _ => 0)), .inl (cT 0, 8, .inl (fun _ => 0)), .inl (cT 0, 8, .inl (fun _ => 0)), .inl (cT 0, 8, .inl (fun _ => 0)), .inl (cT 0, 5, .inl (fun _ => 0)), .inl (cT 0, 5, .inl (fun _ => 0)), .inl (cT 0, 5, .inl (fun _ => 0)), .inl (cT 0, 40, .inl (fun _ => 0)), .inr (7, [.ref (b + 121), .null, .ref (b + 123), .ref (b + 124), .int 0, .ref (b + 125), .ref (b + 126), .ref (b + 127), .ref (b + 128), .ref (b + 129), .int 0]), .inr (0, [.ref (b + 122)]), .inl (cT 0, 58, .inl (upd (fun _ => 0) 2 (-1))), .inl (cT 0, 40, .inl (fun _ => 0)), .inl (cT 0, 5, .inl (fun _ => 0)), .inl (cT 0, 8, .inl (fun _ => 0)), .inl (cT 0, 5, .inl (fun _ => 0)), .inl (cT 0, 5, .inl (fun _ => 0)), .inl (cT 0, 8, .inl (fun _ => 0)), .inl (cT 0, 5, .inl (fun _ => 0)), .inr (2, [.ref (b + 131), .ref (b + 132), .ref (b + 133), .ref (b + 134), .int 0, .int 0]), .inl (cT 0, 256, .inl (fun _ => 0)), .inl (cT 0, 256, .inl (fun _ => 0)), .inl (cT 3, 256, .inr (.inl (fun _ => 0))), .inl (cT 3, 256, .inr (.inl (fun _ => 0)))]) H := hP
  have hz : Array.size H = b + 135 := hY.2
  refine W.widen (k := 134) (n := 5821) (Nat.le_of_ble_eq_true rfl) (Nat.le_of_ble_eq_true rfl) ?_
  refine gb_putF (ci := 9) (v := (.ref (b + 130))) (ty := .object "GooseBorder$Flocks") (C := RX11) (T := TX11) (N := 10) hx hb hq i_X11 tyX11 tyX11_ok nmX11 hown hK hP (fun k _ => Nat.le_add_right b k) hS hz 0 rfl rfl 8 (by decide) (hq _ w_323) (fun _ h9 => h9) rfl hin rfl (by decide +kernel) rfl rfl (Nat.le_of_ble_eq_true rfl) dX11_init_160 (fun H locs hP hz hS => ?_)
  have hP : va_P D vwCl (gb_wl b [.inr (9, [.ref (b + 1), .ref (b + 24), .ref (b + 94), .ref (b + 95), .ref (b + 104), .ref (b + 106), .ref (b + 109), .ref (b + 120), .ref (b + 130), .int 0]), .inr (8, [.ref (b + 2), .ref (b + 7), .ref (b + 12), .ref (b + 17), .ref (b + 22), .ref (b + 23), .int 0, .int 0, .int (-1)]), .inl (cT 4, 2, .inr (.inr (.inr (.inr (va_up (va_up (fun _ => none) 0 (some (b + 3))) 1 (some (b + 5))))))), .inr (0, [.ref (b + 4)]), .inl (cT 0, 58, .inl (upd (fun _ => 0) 2 (-1))), .inr (0, [.ref (b + 6)]), .inl (cT 0, 58, .inl (upd (fun _ => 0) 2 (-1))), .inl (cT 5, 2, .inr (.inr (.inr (.inr (va_up (va_up (fun _ => none) 0 (some (b + 8))) 1 (some (b + 10))))))), .inr (4, [.int 24, .int 3, .int 3, .ref (b + 9)]), .inl (cT 0, 97, .inl (fun _ => 0)), .inr (4, [.int 24, .int 3, .int 3, .ref (b + 11)]), .inl (cT 0, 97, .inl (fun _ => 0)), .inl (cT 6, 2, .inr (.inr (.inr (.inr (va_up (va_up (fun _ => none) 0 (some (b + 13))) 1 (some (b + 15))))))), .inr (3, [.int 8, .int 2, .int 12, .ref (b + 14)]), .inl (cT 0, 25, .inl (fun _ => 0)), .inr (3, [.int 8, .int 2, .int 12, .ref (b + 16)]), .inl (cT 0, 25, .inl (fun _ => 0)), .inl (cT 7, 2, .inr (.inr (.inr (.inr (va_up (va_up (fun _ => none) 0 (some (b + 18))) 1 (some (b + 20))))))), .inr (1, [.int 5, .int 2, .int 17, .ref (b + 19)]), .inl (cT 0, 16, .inl (fun _ => 0)), .inr (1, [.int 5, .int 2, .int 17, .ref (b + 21)]), .inl (cT 0, 16, .inl (fun _ => 0)), .inl (cT 0, 4, .inl (fun _ => 0)), .inl (cT 1, 600, .inl (fun _ => 0)), .inl (cT 8, 3, .inr (.inr (.inr (.inr (va_up (va_up (va_up (fun _ => none) 0 (some (b + 25))) 1 (some (b + 48))) 2 (some (b + 71))))))), .inr (8, [.ref (b + 26), .ref (b + 31), .ref (b + 36), .ref (b + 41), .ref (b + 46), .ref (b + 47), .int 0, .int 0, .int (-1)]), .inl (cT 4, 2, .inr (.inr (.inr (.inr (va_up (va_up (fun _ => none) 0 (some (b + 27))) 1 (some (b + 29))))))), .inr (0, [.ref (b + 28)]), .inl (cT 0, 58, .inl (upd (fun _ => 0) 2 (-1))), .inr (0, [.ref (b + 30)]), .inl (cT 0, 58, .inl (upd (fun _ => 0) 2 (-1))), .inl (cT 5, 2, .inr (.inr (.inr (.inr (va_up (va_up (fun _ => none) 0 (some (b + 32))) 1 (some (b + 34))))))), .inr (4, [.int 24, .int 3, .int 3, .ref (b + 33)]), .inl (cT 0, 97, .inl (fun _ => 0)), .inr (4, [.int 24, .int 3, .int 3, .ref (b + 35)]), .inl (cT 0, 97, .inl (fun _ => 0)), .inl (cT 6, 2, .inr (.inr (.inr (.inr (va_up (va_up (fun _ => none) 0 (some (b + 37))) 1 (some (b + 39))))))), .inr (3, [.int 8, .int 2, .int 12, .ref (b + 38)]), .inl (cT 0, 25, .inl (fun _ => 0)), .inr (3, [.int 8, .int 2, .int 12, .ref (b + 40)]), .inl (cT 0, 25, .inl (fun _ => 0)), .inl (cT 7, 2, .inr (.inr (.inr (.inr (va_up (va_up (fun _ => none) 0 (some (b + 42))) 1 (some (b + 44))))))), .inr (1, [.int 5, .int 2, .int 17, .ref (b + 43)]), .inl (cT 0, 16, .inl (fun _ => 0)), .inr (1, [.int 5, .int 2, .int 17, .ref (b + 45)]), .inl (cT 0, 16, .inl (fun _ => 0)), .inl (cT 0, 4, .inl (fun _ => 0)), .inl (cT 1, 600, .inl (fun _ => 0)), .inr (8, [.ref (b + 49), .ref (b + 54), .ref (b + 59), .ref (b + 64), .ref (b + 69), .ref (b + 70), .int 0, .int 0, .int (-1)]), .inl (cT 4, 2, .inr (.inr (.inr (.inr (va_up (va_up (fun _ => none) 0 (some (b + 50))) 1 (some (b + 52))))))), .inr (0, [.ref (b + 51)]), .inl (cT 0, 58, .inl (upd (fun _ => 0) 2 (-1))), .inr (0, [.ref (b + 53)]), .inl (cT 0, 58, .inl (upd (fun _ => 0) 2 (-1))), .inl (cT 5, 2, .inr (.inr (.inr (.inr (va_up (va_up (fun _ => none) 0 (some (b + 55))) 1 (some (b + 57))))))), .inr (4, [.int 24, .int 3, .int 3, .ref (b + 56)]), .inl (cT 0, 97, .inl (fun _ => 0)), .inr (4, [.int 24, .int 3, .int 3, .ref (b + 58)]), .inl (cT 0, 97, .inl (fun _ => 0)), .inl (cT 6, 2, .inr (.inr (.inr (.inr (va_up (va_up (fun _ => none) 0 (some (b + 60))) 1 (some (b + 62))))))), .inr (3, [.int 8, .int 2, .int 12, .ref (b + 61)]), .inl (cT 0, 25, .inl (fun _ => 0)), .inr (3, [.int 8, .int 2, .int 12, .ref (b + 63)]), .inl (cT 0, 25, .inl (fun _ => 0)), .inl (cT 7, 2, .inr (.inr (.inr (.inr (va_up (va_up (fun _ => none) 0 (some (b + 65))) 1 (some (b + 67))))))), .inr (1, [.int 5, .int 2, .int 17, .ref (b + 66)]), .inl (cT 0, 16, .inl (fun _ => 0)), .inr (1, [.int 5, .int 2, .int 17, .ref (b + 68)]), .inl (cT 0, 16, .inl (fun _ => 0)), .inl (cT 0, 4, .inl (fun _ => 0)), .inl (cT 1, 600, .inl (fun _ => 0)), .inr (8, [.ref (b + 72), .ref (b + 77), .ref (b + 82), .ref (b + 87), .ref (b + 92), .ref (b + 93), .int 0, .int 0, .int (-1)]), .inl (cT 4, 2, .inr (.inr (.inr (.inr (va_up (va_up (fun _ => none) 0 (some (b + 73))) 1 (some (b + 75))))))), .inr (0, [.ref (b + 74)]), .inl (cT 0, 58, .inl (upd (fun _ => 0) 2 (-1))), .inr (0, [.ref (b + 76)]), .inl (cT 0, 58, .inl (upd (fun _ => 0) 2 (-1))), .inl (cT 5, 2, .inr (.inr (.inr (.inr (va_up (va_up (fun _ => none) 0 (some (b + 78))) 1 (some (b + 80))))))), .inr (4, [.int 24, .int 3, .int 3, .ref (b + 79)]), .inl (cT 0, 97, .inl (fun _ => 0)), .inr (4, [.int 24, .int 3, .int 3, .ref (b + 81)]), .inl (cT 0, 97, .inl (fun _ => 0)), .inl (cT 6, 2, .inr (.inr (.inr (.inr (va_up (va_up (fun _ => none) 0 (some (b + 83))) 1 (some (b + 85))))))), .inr (3, [.int 8, .int 2, .int 12, .ref (b + 84)]), .inl (cT 0, 25, .inl (fun _ => 0)), .inr (3, [.int 8, .int 2, .int 12, .ref (b + 86)]), .inl (cT 0, 25, .inl (fun _ => 0)), .inl (cT 7, 2, .inr (.inr (.inr (.inr (va_up (va_up (fun _ => none) 0 (some (b + 88))) 1 (some (b + 90))))))), .inr (1, [.int 5, .int 2, .int 17, .ref (b + 89)]), .inl (cT 0, 16, .inl (fun _ => 0)), .inr (1, [.int 5, .int 2, .int 17, .ref (b + 91)]), .inl (cT 0, 16, .inl (fun _ => 0)), .inl (cT 0, 4, .inl (fun _ => 0)), .inl (cT 1, 600, .inl (fun _ => 0)), .inl (cT 2, 3, .inl (fun _ => 0)), .inl (cT 9, 4, .inr (.inr (.inr (.inr (va_up (va_up (va_up (va_up (fun _ => none) 0 (some (b + 96))) 1 (some (b + 98))) 2 (some (b + 100))) 3 (some (b + 102))))))), .inr (0, [.ref (b + 97)]), .inl (cT 0, 58, .inl (upd (fun _ => 0) 2 (-1))), .inr (4, [.int 24, .int 3, .int 3, .ref (b + 99)]), .inl (cT 0, 97, .inl (fun _ => 0)), .inr (3, [.int 8, .int 2, .int 12, .ref (b + 101)]), .inl (cT 0, 25, .inl (fun _ => 0)), .inr (1, [.int 5, .int 2, .int 17, .ref (b + 103)]), .inl (cT 0, 16, .inl (fun _ => 0)), .inr (4, [.int 24, .int 3, .int 3, .ref (b + 105)]), .inl (cT 0, 97, .inl (fun _ => 0)), .inr (6, [.ref (b + 107), .ref (b + 108), .int 0, .int 0, .int 0, .int 0]), .inl (cT 0, 5, .inl (fun _ => 0)), .inl (cT 1, 0, .inl (fun _ => 0)), .inr (5, [.ref (b + 110), .ref (b + 112), .ref (b + 113), .ref (b + 114), .ref (b + 115), .ref (b + 116), .ref (b + 117), .ref (b + 118), .ref (b + 119), .int 0, .int 0, .int 0]), .inr (0, [.ref (b + 111)]), .inl (cT 0, 58, .inl (upd (fun _ => 0) 2 (-1))), .inl (cT 0, 8, .inl (fun _ => 0)), .inl (cT 0, 8, .inl (fun _ => 0)), .inl (cT 0, 8, .inl (fun _ => 0)), .inl (cT 0, 8, .inl (fun _ => 0)), .inl (cT 0, 5, .inl (fun _ => 0)), .inl (cT 0, 5, .inl (fun _ => 0)), .inl (cT 0, 5, .inl (fun _ => 0)), .inl (cT 0, 40, .inl (fun _ => 0)), .inr (7, [.ref (b + 121), .null, .ref (b + 123), .ref (b + 124), .int 0, .ref (b + 125), .ref (b + 126), .ref (b + 127), .ref (b + 128), .ref (b + 129), .int 0]), .inr (0, [.ref (b + 122)]), .inl (cT 0, 58, .inl (upd (fun _ => 0) 2 (-1))), .inl (cT 0, 40, .inl (fun _ => 0)), .inl (cT 0, 5, .inl (fun _ => 0)), .inl (cT 0, 8, .inl (fun _ => 0)), .inl (cT 0, 5, .inl (fun _ => 0)), .inl (cT 0, 5, .inl (fun _ => 0)), .inl (cT 0, 8, .inl (fun _ => 0)), .inl (cT 0, 5, .inl (fun _ => 0)), .inr (2, [.ref (b + 131), .ref (b + 132), .ref (b + 133), .ref (b + 134), .int 0, .int 0]), .inl (cT 0, 256, .inl (fun _ => 0)), .inl (cT 0, 256, .inl (fun _ => 0)), .inl (cT 3, 256, .inr (.inl (fun _ => 0))), .inl (cT 3, 256, .inr (.inl (fun _ => 0)))]) H := hP
  exact W.vret hx hb hr (fun t ht hW => gb_rv ht ⟨hP, hz⟩ hS) hS.2.2 dX11_init_163
end
section
theorem dX12_init_0 : decode cX12_init 0 = .ok (.aload_n 0, 1) := by decide +kernel
theorem dX12_init_1 : decode cX12_init 1 = .ok (.invokespecial 1, 3) := by decide +kernel
theorem w_1123 : (Cond.methodLink "GooseBorderModel" (1 : Nat) ({ cls := "java/lang/Object", name := "<init>", desc := "()V" } : MethodName)) ∈ gb_wA := gb_t5 163 rfl rfl
theorem dX12_init_4 : decode cX12_init 4 = .ok (.aload_n 0, 1) := by decide +kernel
theorem dX12_init_5 : decode cX12_init 5 = .ok (.sipush 3968, 3) := by decide +kernel
theorem dX12_init_8 : decode cX12_init 8 = .ok (.newarray .int, 2) := by decide +kernel
theorem dX12_init_10 : decode cX12_init 10 = .ok (.putfield 7, 3) := by decide +kernel
theorem w_1168 : (Cond.laysFinal "GooseBorderModel" "GooseBorderModel" "all" "[I") ∈ gb_wA := gb_t5 208 rfl rfl
theorem w_1170 : (Cond.laysFinal "GooseBorderModel" "GooseBorderModel" "has" "[Z") ∈ gb_wA := gb_t5 210 rfl rfl
theorem w_1172 : (Cond.lays "GooseBorderModel" "GooseBorderModel" "size" "I") ∈ gb_wA := gb_t5 212 rfl rfl
theorem w_1174 : (Cond.lays "GooseBorderModel" "GooseBorderModel" "next" "I") ∈ gb_wA := gb_t5 214 rfl rfl
theorem w_1176 : (Cond.lays "GooseBorderModel" "GooseBorderModel" "where" "I") ∈ gb_wA := gb_t5 216 rfl rfl
theorem w_1178 : (Cond.lays "GooseBorderModel" "GooseBorderModel" "token" "I") ∈ gb_wA := gb_t5 218 rfl rfl
theorem w_1180 : (Cond.lays "GooseBorderModel" "GooseBorderModel" "number" "I") ∈ gb_wA := gb_t5 220 rfl rfl
theorem w_1182 : (Cond.lays "GooseBorderModel" "GooseBorderModel" "word" "I") ∈ gb_wA := gb_t5 222 rfl rfl
theorem w_1184 : (Cond.lays "GooseBorderModel" "GooseBorderModel" "wrong" "Z") ∈ gb_wA := gb_t5 224 rfl rfl
theorem w_1186 : (Cond.lays "GooseBorderModel" "GooseBorderModel" "twice" "Z") ∈ gb_wA := gb_t5 226 rfl rfl
theorem w_1188 : (Cond.laysFinal "GooseBorderModel" "GooseBorderModel" "read" "[I") ∈ gb_wA := gb_t5 228 rfl rfl
theorem w_1190 : (Cond.lays "GooseBorderModel" "GooseBorderModel" "b0" "I") ∈ gb_wA := gb_t5 230 rfl rfl
theorem w_1192 : (Cond.lays "GooseBorderModel" "GooseBorderModel" "n0" "I") ∈ gb_wA := gb_t5 232 rfl rfl
theorem w_1194 : (Cond.laysFinal "GooseBorderModel" "GooseBorderModel" "at" "[I") ∈ gb_wA := gb_t5 234 rfl rfl
theorem w_1196 : (Cond.laysFinal "GooseBorderModel" "GooseBorderModel" "boots" "[I") ∈ gb_wA := gb_t5 236 rfl rfl
theorem w_1198 : (Cond.laysFinal "GooseBorderModel" "GooseBorderModel" "trail" "[I") ∈ gb_wA := gb_t5 238 rfl rfl
theorem w_1200 : (Cond.laysFinal "GooseBorderModel" "GooseBorderModel" "lastPath" "[I") ∈ gb_wA := gb_t6 0 rfl rfl
theorem w_1202 : (Cond.laysFinal "GooseBorderModel" "GooseBorderModel" "shod" "[Z") ∈ gb_wA := gb_t6 2 rfl rfl
theorem w_1204 : (Cond.laysFinal "GooseBorderModel" "GooseBorderModel" "gone" "[I") ∈ gb_wA := gb_t6 4 rfl rfl
theorem w_1206 : (Cond.laysFinal "GooseBorderModel" "GooseBorderModel" "marked" "[I") ∈ gb_wA := gb_t6 6 rfl rfl
theorem w_1208 : (Cond.laysFinal "GooseBorderModel" "GooseBorderModel" "exported" "[I") ∈ gb_wA := gb_t6 8 rfl rfl
theorem w_1210 : (Cond.laysFinal "GooseBorderModel" "GooseBorderModel" "washed" "[I") ∈ gb_wA := gb_t6 10 rfl rfl
theorem w_1212 : (Cond.lays "GooseBorderModel" "GooseBorderModel" "frost" "Z") ∈ gb_wA := gb_t6 12 rfl rfl
theorem w_1214 : (Cond.lays "GooseBorderModel" "GooseBorderModel" "done" "I") ∈ gb_wA := gb_t6 14 rfl rfl
theorem w_1216 : (Cond.lays "GooseBorderModel" "GooseBorderModel" "spared" "I") ∈ gb_wA := gb_t6 16 rfl rfl
theorem w_1218 : (Cond.lays "GooseBorderModel" "GooseBorderModel" "l0" "I") ∈ gb_wA := gb_t6 18 rfl rfl
theorem w_1220 : (Cond.laysFinal "GooseBorderModel" "GooseBorderModel" "firsts" "[I") ∈ gb_wA := gb_t6 20 rfl rfl
theorem w_1222 : (Cond.laysFinal "GooseBorderModel" "GooseBorderModel" "sum" "[I") ∈ gb_wA := gb_t6 22 rfl rfl
theorem w_1224 : (Cond.lays "GooseBorderModel" "GooseBorderModel" "bestCode" "I") ∈ gb_wA := gb_t6 24 rfl rfl
theorem w_1226 : (Cond.lays "GooseBorderModel" "GooseBorderModel" "d0" "I") ∈ gb_wA := gb_t6 26 rfl rfl
theorem w_1228 : (Cond.laysFinal "GooseBorderModel" "GooseBorderModel" "due" "[I") ∈ gb_wA := gb_t6 28 rfl rfl
theorem w_1230 : (Cond.laysFinal "GooseBorderModel" "GooseBorderModel" "choice" "[I") ∈ gb_wA := gb_t6 30 rfl rfl
theorem w_1232 : (Cond.laysFinal "GooseBorderModel" "GooseBorderModel" "added" "[Z") ∈ gb_wA := gb_t6 32 rfl rfl
theorem w_1234 : (Cond.lays "GooseBorderModel" "GooseBorderModel" "ways" "J") ∈ gb_wA := gb_t6 34 rfl rfl
theorem w_1236 : (Cond.lays "GooseBorderModel" "GooseBorderModel" "fewest" "I") ∈ gb_wA := gb_t6 36 rfl rfl
theorem w_1238 : (Cond.lays "GooseBorderModel" "GooseBorderModel" "most" "I") ∈ gb_wA := gb_t6 38 rfl rfl
theorem w_1240 : (Cond.lays "GooseBorderModel" "GooseBorderModel" "sure" "I") ∈ gb_wA := gb_t6 40 rfl rfl
theorem w_1242 : (Cond.laysFinal "GooseBorderModel" "GooseBorderModel" "by" "[I") ∈ gb_wA := gb_t6 42 rfl rfl
theorem w_1244 : (Cond.lays "GooseBorderModel" "GooseBorderModel" "x0" "I") ∈ gb_wA := gb_t6 44 rfl rfl
theorem w_1246 : (Cond.laysFinal "GooseBorderModel" "GooseBorderModel" "tallies" "[I") ∈ gb_wA := gb_t6 46 rfl rfl
theorem w_1248 : (Cond.laysFinal "GooseBorderModel" "GooseBorderModel" "trails" "[I") ∈ gb_wA := gb_t6 48 rfl rfl
theorem w_1250 : (Cond.lays "GooseBorderModel" "GooseBorderModel" "paid" "I") ∈ gb_wA := gb_t6 50 rfl rfl
theorem w_1252 : (Cond.lays "GooseBorderModel" "GooseBorderModel" "children" "I") ∈ gb_wA := gb_t6 52 rfl rfl
theorem w_1254 : (Cond.laysFinal "GooseBorderModel" "GooseBorderModel" "put" "[Z") ∈ gb_wA := gb_t6 54 rfl rfl
theorem i_X12 : ∀ w ∈ u_ws RX12 TX12 44, w ∈ gb_wA := (List.forall_mem_cons.mpr ⟨w_1168, List.forall_mem_cons.mpr ⟨w_1170, List.forall_mem_cons.mpr ⟨w_1172, List.forall_mem_cons.mpr ⟨w_1174, List.forall_mem_cons.mpr ⟨w_1176, List.forall_mem_cons.mpr ⟨w_1178, List.forall_mem_cons.mpr ⟨w_1180, List.forall_mem_cons.mpr ⟨w_1182, List.forall_mem_cons.mpr ⟨w_1184, List.forall_mem_cons.mpr ⟨w_1186, List.forall_mem_cons.mpr ⟨w_1188, List.forall_mem_cons.mpr ⟨w_1190, List.forall_mem_cons.mpr ⟨w_1192, List.forall_mem_cons.mpr ⟨w_1194, List.forall_mem_cons.mpr ⟨w_1196, List.forall_mem_cons.mpr ⟨w_1198, List.forall_mem_cons.mpr ⟨w_1200, List.forall_mem_cons.mpr ⟨w_1202, List.forall_mem_cons.mpr ⟨w_1204, List.forall_mem_cons.mpr ⟨w_1206, List.forall_mem_cons.mpr ⟨w_1208, List.forall_mem_cons.mpr ⟨w_1210, List.forall_mem_cons.mpr ⟨w_1212, List.forall_mem_cons.mpr ⟨w_1214, List.forall_mem_cons.mpr ⟨w_1216, List.forall_mem_cons.mpr ⟨w_1218, List.forall_mem_cons.mpr ⟨w_1220, List.forall_mem_cons.mpr ⟨w_1222, List.forall_mem_cons.mpr ⟨w_1224, List.forall_mem_cons.mpr ⟨w_1226, List.forall_mem_cons.mpr ⟨w_1228, List.forall_mem_cons.mpr ⟨w_1230, List.forall_mem_cons.mpr ⟨w_1232, List.forall_mem_cons.mpr ⟨w_1234, List.forall_mem_cons.mpr ⟨w_1236, List.forall_mem_cons.mpr ⟨w_1238, List.forall_mem_cons.mpr ⟨w_1240, List.forall_mem_cons.mpr ⟨w_1242, List.forall_mem_cons.mpr ⟨w_1244, List.forall_mem_cons.mpr ⟨w_1246, List.forall_mem_cons.mpr ⟨w_1248, List.forall_mem_cons.mpr ⟨w_1250, List.forall_mem_cons.mpr ⟨w_1252, List.forall_mem_cons.mpr ⟨w_1254, fun _ h => absurd h List.not_mem_nil⟩⟩⟩⟩⟩⟩⟩⟩⟩⟩⟩⟩⟩⟩⟩⟩⟩⟩⟩⟩⟩⟩⟩⟩⟩⟩⟩⟩⟩⟩⟩⟩⟩⟩⟩⟩⟩⟩⟩⟩⟩⟩⟩⟩ : ∀ w ∈ ([Cond.laysFinal "GooseBorderModel" "GooseBorderModel" "all" "[I", Cond.laysFinal "GooseBorderModel" "GooseBorderModel" "has" "[Z", Cond.lays "GooseBorderModel" "GooseBorderModel" "size" "I", Cond.lays "GooseBorderModel" "GooseBorderModel" "next" "I", Cond.lays "GooseBorderModel" "GooseBorderModel" "where" "I", Cond.lays "GooseBorderModel" "GooseBorderModel" "token" "I", Cond.lays "GooseBorderModel" "GooseBorderModel" "number" "I", Cond.lays "GooseBorderModel" "GooseBorderModel" "word" "I", Cond.lays "GooseBorderModel" "GooseBorderModel" "wrong" "Z", Cond.lays "GooseBorderModel" "GooseBorderModel" "twice" "Z", Cond.laysFinal "GooseBorderModel" "GooseBorderModel" "read" "[I", Cond.lays "GooseBorderModel" "GooseBorderModel" "b0" "I", Cond.lays "GooseBorderModel" "GooseBorderModel" "n0" "I", Cond.laysFinal "GooseBorderModel" "GooseBorderModel" "at" "[I", Cond.laysFinal "GooseBorderModel" "GooseBorderModel" "boots" "[I", Cond.laysFinal "GooseBorderModel" "GooseBorderModel" "trail" "[I", Cond.laysFinal "GooseBorderModel" "GooseBorderModel" "lastPath" "[I", Cond.laysFinal "GooseBorderModel" "GooseBorderModel" "shod" "[Z", Cond.laysFinal "GooseBorderModel" "GooseBorderModel" "gone" "[I", Cond.laysFinal "GooseBorderModel" "GooseBorderModel" "marked" "[I", Cond.laysFinal "GooseBorderModel" "GooseBorderModel" "exported" "[I", Cond.laysFinal "GooseBorderModel" "GooseBorderModel" "washed" "[I", Cond.lays "GooseBorderModel" "GooseBorderModel" "frost" "Z", Cond.lays "GooseBorderModel" "GooseBorderModel" "done" "I", Cond.lays "GooseBorderModel" "GooseBorderModel" "spared" "I", Cond.lays "GooseBorderModel" "GooseBorderModel" "l0" "I", Cond.laysFinal "GooseBorderModel" "GooseBorderModel" "firsts" "[I", Cond.laysFinal "GooseBorderModel" "GooseBorderModel" "sum" "[I", Cond.lays "GooseBorderModel" "GooseBorderModel" "bestCode" "I", Cond.lays "GooseBorderModel" "GooseBorderModel" "d0" "I", Cond.laysFinal "GooseBorderModel" "GooseBorderModel" "due" "[I", Cond.laysFinal "GooseBorderModel" "GooseBorderModel" "choice" "[I", Cond.laysFinal "GooseBorderModel" "GooseBorderModel" "added" "[Z", Cond.lays "GooseBorderModel" "GooseBorderModel" "ways" "J", Cond.lays "GooseBorderModel" "GooseBorderModel" "fewest" "I", Cond.lays "GooseBorderModel" "GooseBorderModel" "most" "I", Cond.lays "GooseBorderModel" "GooseBorderModel" "sure" "I", Cond.laysFinal "GooseBorderModel" "GooseBorderModel" "by" "[I", Cond.lays "GooseBorderModel" "GooseBorderModel" "x0" "I", Cond.laysFinal "GooseBorderModel" "GooseBorderModel" "tallies" "[I", Cond.laysFinal "GooseBorderModel" "GooseBorderModel" "trails" "[I", Cond.lays "GooseBorderModel" "GooseBorderModel" "paid" "I", Cond.lays "GooseBorderModel" "GooseBorderModel" "children" "I", Cond.laysFinal "GooseBorderModel" "GooseBorderModel" "put" "[Z"] : List Cond), w ∈ gb_wA)
theorem w_1124 : (Cond.fieldLink "GooseBorderModel" (7 : Nat) "GooseBorderModel" "all" "[I") ∈ gb_wA := gb_t5 164 rfl rfl
theorem dX12_init_13 : decode cX12_init 13 = .ok (.aload_n 0, 1) := by decide +kernel
theorem dX12_init_14 : decode cX12_init 14 = .ok (.iconst 3, 1) := by decide +kernel
theorem dX12_init_15 : decode cX12_init 15 = .ok (.newarray .boolean, 2) := by decide +kernel
theorem dX12_init_17 : decode cX12_init 17 = .ok (.putfield 13, 3) := by decide +kernel
theorem w_1125 : (Cond.fieldLink "GooseBorderModel" (13 : Nat) "GooseBorderModel" "has" "[Z") ∈ gb_wA := gb_t5 165 rfl rfl
theorem dX12_init_20 : decode cX12_init 20 = .ok (.aload_n 0, 1) := by decide +kernel
theorem dX12_init_21 : decode cX12_init 21 = .ok (.bipush 97, 2) := by decide +kernel
theorem dX12_init_23 : decode cX12_init 23 = .ok (.newarray .int, 2) := by decide +kernel
theorem dX12_init_25 : decode cX12_init 25 = .ok (.putfield 17, 3) := by decide +kernel
theorem w_1134 : (Cond.fieldLink "GooseBorderModel" (17 : Nat) "GooseBorderModel" "read" "[I") ∈ gb_wA := gb_t5 174 rfl rfl
theorem dX12_init_28 : decode cX12_init 28 = .ok (.aload_n 0, 1) := by decide +kernel
theorem dX12_init_29 : decode cX12_init 29 = .ok (.bipush 8, 2) := by decide +kernel
theorem dX12_init_31 : decode cX12_init 31 = .ok (.newarray .int, 2) := by decide +kernel
theorem dX12_init_33 : decode cX12_init 33 = .ok (.putfield 20, 3) := by decide +kernel
theorem w_1137 : (Cond.fieldLink "GooseBorderModel" (20 : Nat) "GooseBorderModel" "at" "[I") ∈ gb_wA := gb_t5 177 rfl rfl
theorem dX12_init_36 : decode cX12_init 36 = .ok (.aload_n 0, 1) := by decide +kernel
theorem dX12_init_37 : decode cX12_init 37 = .ok (.bipush 8, 2) := by decide +kernel
theorem dX12_init_39 : decode cX12_init 39 = .ok (.newarray .int, 2) := by decide +kernel
theorem dX12_init_41 : decode cX12_init 41 = .ok (.putfield 23, 3) := by decide +kernel
theorem w_1138 : (Cond.fieldLink "GooseBorderModel" (23 : Nat) "GooseBorderModel" "boots" "[I") ∈ gb_wA := gb_t5 178 rfl rfl
theorem dX12_init_44 : decode cX12_init 44 = .ok (.aload_n 0, 1) := by decide +kernel
theorem dX12_init_45 : decode cX12_init 45 = .ok (.bipush 8, 2) := by decide +kernel
theorem dX12_init_47 : decode cX12_init 47 = .ok (.newarray .int, 2) := by decide +kernel
theorem dX12_init_49 : decode cX12_init 49 = .ok (.putfield 26, 3) := by decide +kernel
theorem w_1139 : (Cond.fieldLink "GooseBorderModel" (26 : Nat) "GooseBorderModel" "trail" "[I") ∈ gb_wA := gb_t5 179 rfl rfl
theorem dX12_init_52 : decode cX12_init 52 = .ok (.aload_n 0, 1) := by decide +kernel
theorem dX12_init_53 : decode cX12_init 53 = .ok (.bipush 8, 2) := by decide +kernel
theorem dX12_init_55 : decode cX12_init 55 = .ok (.newarray .int, 2) := by decide +kernel
theorem dX12_init_57 : decode cX12_init 57 = .ok (.putfield 29, 3) := by decide +kernel
theorem w_1140 : (Cond.fieldLink "GooseBorderModel" (29 : Nat) "GooseBorderModel" "lastPath" "[I") ∈ gb_wA := gb_t5 180 rfl rfl
theorem dX12_init_60 : decode cX12_init 60 = .ok (.aload_n 0, 1) := by decide +kernel
theorem dX12_init_61 : decode cX12_init 61 = .ok (.bipush 8, 2) := by decide +kernel
theorem dX12_init_63 : decode cX12_init 63 = .ok (.newarray .boolean, 2) := by decide +kernel
theorem dX12_init_65 : decode cX12_init 65 = .ok (.putfield 32, 3) := by decide +kernel
theorem w_1141 : (Cond.fieldLink "GooseBorderModel" (32 : Nat) "GooseBorderModel" "shod" "[Z") ∈ gb_wA := gb_t5 181 rfl rfl
theorem dX12_init_68 : decode cX12_init 68 = .ok (.aload_n 0, 1) := by decide +kernel
theorem dX12_init_69 : decode cX12_init 69 = .ok (.bipush 40, 2) := by decide +kernel
theorem dX12_init_71 : decode cX12_init 71 = .ok (.newarray .int, 2) := by decide +kernel
theorem dX12_init_73 : decode cX12_init 73 = .ok (.putfield 35, 3) := by decide +kernel
theorem w_1142 : (Cond.fieldLink "GooseBorderModel" (35 : Nat) "GooseBorderModel" "gone" "[I") ∈ gb_wA := gb_t5 182 rfl rfl
theorem dX12_init_76 : decode cX12_init 76 = .ok (.aload_n 0, 1) := by decide +kernel
theorem dX12_init_77 : decode cX12_init 77 = .ok (.iconst 5, 1) := by decide +kernel
theorem dX12_init_78 : decode cX12_init 78 = .ok (.newarray .int, 2) := by decide +kernel
theorem dX12_init_80 : decode cX12_init 80 = .ok (.putfield 38, 3) := by decide +kernel
theorem w_1143 : (Cond.fieldLink "GooseBorderModel" (38 : Nat) "GooseBorderModel" "marked" "[I") ∈ gb_wA := gb_t5 183 rfl rfl
theorem dX12_init_83 : decode cX12_init 83 = .ok (.aload_n 0, 1) := by decide +kernel
theorem dX12_init_84 : decode cX12_init 84 = .ok (.iconst 5, 1) := by decide +kernel
theorem dX12_init_85 : decode cX12_init 85 = .ok (.newarray .int, 2) := by decide +kernel
theorem dX12_init_87 : decode cX12_init 87 = .ok (.putfield 41, 3) := by decide +kernel
theorem w_1144 : (Cond.fieldLink "GooseBorderModel" (41 : Nat) "GooseBorderModel" "exported" "[I") ∈ gb_wA := gb_t5 184 rfl rfl
theorem dX12_init_90 : decode cX12_init 90 = .ok (.aload_n 0, 1) := by decide +kernel
theorem dX12_init_91 : decode cX12_init 91 = .ok (.iconst 5, 1) := by decide +kernel
theorem dX12_init_92 : decode cX12_init 92 = .ok (.newarray .int, 2) := by decide +kernel
theorem dX12_init_94 : decode cX12_init 94 = .ok (.putfield 44, 3) := by decide +kernel
theorem w_1145 : (Cond.fieldLink "GooseBorderModel" (44 : Nat) "GooseBorderModel" "washed" "[I") ∈ gb_wA := gb_t5 185 rfl rfl
theorem dX12_init_97 : decode cX12_init 97 = .ok (.aload_n 0, 1) := by decide +kernel
theorem dX12_init_98 : decode cX12_init 98 = .ok (.bipush 40, 2) := by decide +kernel
theorem dX12_init_100 : decode cX12_init 100 = .ok (.newarray .int, 2) := by decide +kernel
theorem dX12_init_102 : decode cX12_init 102 = .ok (.putfield 47, 3) := by decide +kernel
theorem w_1150 : (Cond.fieldLink "GooseBorderModel" (47 : Nat) "GooseBorderModel" "firsts" "[I") ∈ gb_wA := gb_t5 190 rfl rfl
theorem dX12_init_105 : decode cX12_init 105 = .ok (.aload_n 0, 1) := by decide +kernel
theorem dX12_init_106 : decode cX12_init 106 = .ok (.iconst 5, 1) := by decide +kernel
theorem dX12_init_107 : decode cX12_init 107 = .ok (.newarray .int, 2) := by decide +kernel
theorem dX12_init_109 : decode cX12_init 109 = .ok (.putfield 50, 3) := by decide +kernel
theorem w_1151 : (Cond.fieldLink "GooseBorderModel" (50 : Nat) "GooseBorderModel" "sum" "[I") ∈ gb_wA := gb_t5 191 rfl rfl
theorem dX12_init_112 : decode cX12_init 112 = .ok (.aload_n 0, 1) := by decide +kernel
theorem dX12_init_113 : decode cX12_init 113 = .ok (.iconst 5, 1) := by decide +kernel
theorem dX12_init_114 : decode cX12_init 114 = .ok (.newarray .int, 2) := by decide +kernel
theorem dX12_init_116 : decode cX12_init 116 = .ok (.putfield 53, 3) := by decide +kernel
theorem w_1154 : (Cond.fieldLink "GooseBorderModel" (53 : Nat) "GooseBorderModel" "due" "[I") ∈ gb_wA := gb_t5 194 rfl rfl
theorem dX12_init_119 : decode cX12_init 119 = .ok (.aload_n 0, 1) := by decide +kernel
theorem dX12_init_120 : decode cX12_init 120 = .ok (.bipush 8, 2) := by decide +kernel
theorem dX12_init_122 : decode cX12_init 122 = .ok (.newarray .int, 2) := by decide +kernel
theorem dX12_init_124 : decode cX12_init 124 = .ok (.putfield 56, 3) := by decide +kernel
theorem w_1155 : (Cond.fieldLink "GooseBorderModel" (56 : Nat) "GooseBorderModel" "choice" "[I") ∈ gb_wA := gb_t5 195 rfl rfl
theorem dX12_init_127 : decode cX12_init 127 = .ok (.aload_n 0, 1) := by decide +kernel
theorem dX12_init_128 : decode cX12_init 128 = .ok (.bipush 8, 2) := by decide +kernel
theorem dX12_init_130 : decode cX12_init 130 = .ok (.newarray .boolean, 2) := by decide +kernel
theorem dX12_init_132 : decode cX12_init 132 = .ok (.putfield 59, 3) := by decide +kernel
theorem w_1156 : (Cond.fieldLink "GooseBorderModel" (59 : Nat) "GooseBorderModel" "added" "[Z") ∈ gb_wA := gb_t5 196 rfl rfl
theorem dX12_init_135 : decode cX12_init 135 = .ok (.aload_n 0, 1) := by decide +kernel
theorem dX12_init_136 : decode cX12_init 136 = .ok (.bipush 8, 2) := by decide +kernel
theorem dX12_init_138 : decode cX12_init 138 = .ok (.newarray .int, 2) := by decide +kernel
theorem dX12_init_140 : decode cX12_init 140 = .ok (.putfield 62, 3) := by decide +kernel
theorem w_1161 : (Cond.fieldLink "GooseBorderModel" (62 : Nat) "GooseBorderModel" "by" "[I") ∈ gb_wA := gb_t5 201 rfl rfl
theorem dX12_init_143 : decode cX12_init 143 = .ok (.aload_n 0, 1) := by decide +kernel
theorem dX12_init_144 : decode cX12_init 144 = .ok (.iconst 5, 1) := by decide +kernel
theorem dX12_init_145 : decode cX12_init 145 = .ok (.newarray .int, 2) := by decide +kernel
theorem dX12_init_147 : decode cX12_init 147 = .ok (.putfield 65, 3) := by decide +kernel
theorem w_1163 : (Cond.fieldLink "GooseBorderModel" (65 : Nat) "GooseBorderModel" "tallies" "[I") ∈ gb_wA := gb_t5 203 rfl rfl
theorem dX12_init_150 : decode cX12_init 150 = .ok (.aload_n 0, 1) := by decide +kernel
theorem dX12_init_151 : decode cX12_init 151 = .ok (.bipush 8, 2) := by decide +kernel
theorem dX12_init_153 : decode cX12_init 153 = .ok (.newarray .int, 2) := by decide +kernel
theorem dX12_init_155 : decode cX12_init 155 = .ok (.putfield 68, 3) := by decide +kernel
theorem w_1164 : (Cond.fieldLink "GooseBorderModel" (68 : Nat) "GooseBorderModel" "trails" "[I") ∈ gb_wA := gb_t5 204 rfl rfl
theorem dX12_init_158 : decode cX12_init 158 = .ok (.aload_n 0, 1) := by decide +kernel
theorem dX12_init_159 : decode cX12_init 159 = .ok (.sipush 256, 3) := by decide +kernel
theorem dX12_init_162 : decode cX12_init 162 = .ok (.newarray .boolean, 2) := by decide +kernel
theorem dX12_init_164 : decode cX12_init 164 = .ok (.putfield 71, 3) := by decide +kernel
theorem w_1167 : (Cond.fieldLink "GooseBorderModel" (71 : Nat) "GooseBorderModel" "put" "[Z") ∈ gb_wA := gb_t5 207 rfl rfl
theorem dX12_init_167 : decode cX12_init 167 = .ok (.aload_n 0, 1) := by decide +kernel
theorem dX12_init_168 : decode cX12_init 168 = .ok (.getfield 7, 3) := by decide +kernel
theorem dX12_init_171 : decode cX12_init 171 = .ok (.bipush 6, 2) := by decide +kernel
theorem dX12_init_173 : decode cX12_init 173 = .ok (.iconst (-1), 1) := by decide +kernel
theorem dX12_init_174 : decode cX12_init 174 = .ok (.iastore, 1) := by decide +kernel
theorem dX12_init_175 : decode cX12_init 175 = .ok (.return_, 1) := by decide +kernel
set_option maxHeartbeats 4000000 in
set_option maxRecDepth 100000 in
theorem k_X12_init (l : Launch) (D : va_G) (cT : Nat → ClassId) (tt : Nat → Nat) (b1 b : Nat) (hb1 : b1 ≤ b) : Met l yX12_init (.code yX12_init cX12_init 1 none :: gb_wA) ({ frames := 1, cells := 21, slots := 4506, locals := 12 }) (gb_Pc D cT tt b1 [.ref (b + 0)] (fun h => va_P D vwCl (gb_wl b [.inr (10, [.null, .null, .int 0, .int 0, .int 0, .int 0, .int 0, .int 0, .int 0, .int 0, .null, .int 0, .int 0, .null, .null, .null, .null, .null, .null, .null, .null, .null, .int 0, .int 0, .int 0, .int 0, .null, .null, .int 0, .int 0, .null, .null, .null, .long 0, .int 0, .int 0, .int 0, .null, .int 0, .null, .null, .int 0, .int 0, .null])]) h ∧ Array.size h = b + 1)) (gb_Qv (fun h => va_P D vwCl (gb_wl b [.inr (10, [.ref (b + 1), .ref (b + 2), .int 0, .int 0, .int 0, .int 0, .int 0, .int 0, .int 0, .int 0, .ref (b + 3), .int 0, .int 0, .ref (b + 4), .ref (b + 5), .ref (b + 6), .ref (b + 7), .ref (b + 8), .ref (b + 9), .ref (b + 10), .ref (b + 11), .ref (b + 12), .int 0, .int 0, .int 0, .int 0, .ref (b + 13), .ref (b + 14), .int 0, .int 0, .ref (b + 15), .ref (b + 16), .ref (b + 17), .long 0, .int 0, .int 0, .int 0, .ref (b + 18), .int 0, .ref (b + 19), .ref (b + 20), .int 0, .int 0, .ref (b + 21)]), .inl (cT 0, 3968, .inl (upd (fun _ => 0) 6 (-1))), .inl (cT 2, 3, .inl (fun _ => 0)), .inl (cT 0, 97, .inl (fun _ => 0)), .inl (cT 0, 8, .inl (fun _ => 0)), .inl (cT 0, 8, .inl (fun _ => 0)), .inl (cT 0, 8, .inl (fun _ => 0)), .inl (cT 0, 8, .inl (fun _ => 0)), .inl (cT 2, 8, .inl (fun _ => 0)), .inl (cT 0, 40, .inl (fun _ => 0)), .inl (cT 0, 5, .inl (fun _ => 0)), .inl (cT 0, 5, .inl (fun _ => 0)), .inl (cT 0, 5, .inl (fun _ => 0)), .inl (cT 0, 40, .inl (fun _ => 0)), .inl (cT 0, 5, .inl (fun _ => 0)), .inl (cT 0, 5, .inl (fun _ => 0)), .inl (cT 0, 8, .inl (fun _ => 0)), .inl (cT 2, 8, .inl (fun _ => 0)), .inl (cT 0, 8, .inl (fun _ => 0)), .inl (cT 0, 5, .inl (fun _ => 0)), .inl (cT 0, 8, .inl (fun _ => 0)), .inl (cT 2, 256, .inl (fun _ => 0))]) h ∧ Array.size h = b + 22) (gb_ge b)) 21 4506 (gb_ge b) := by
  refine Met.ofW (cc := cX12_init) (maxL := 1) (ret := none) (by decide) rfl ?_
  intro p e s m args below meth c s₁ B hml hv
  obtain ⟨rfl, hSt, hP, hz⟩ := hv
  have hx := B.exec
  have hb := B.bytes
  have hr := B.returns
  have hts := atoms_spec (ws := .code yX12_init cX12_init 1 none :: gb_wA) B.pre
  have hq : ∀ w ∈ gb_wA, w.before _ s = true := fun w h => hts w (List.mem_cons_of_mem _ h)
  have hown : s.vm.findClass RX12 = some m.cls := findClass_of_methodNamed B.named
  have hlocks := B.notSynchronized
  have hin : meth.name = "<init>" := (name_of_methodNamed B.named B.method).1
  have hK := hSt.1
  have hS : va_S (gb_ge b) s.heap s.heap [] := va_S.rf
  have hl := lv_entry ([.ref (b + 0)]) (n := 1) (Nat.le_of_ble_eq_true rfl)
  rw [lg_entry_eq]
  generalize (lg_sl ([.ref (b + 0)]) ++ List.replicate (1 - (lg_sl ([.ref (b + 0)])).length) Slot.unset).toArray = ls at hl ⊢
  have hl : lv_has ls 1 [(0, .ref (b + 0))] := hl
  refine lv_aload_n hx hb dX12_init_0 rfl (lv_at hl 0 rfl) ?_
  refine W.objInit hx hb hown (hq _ w_1123) (hq _ w_28) (hq _ w_29) rfl (by rw [hml]; exact hl.1) rfl dX12_init_1 (Nat.le_of_ble_eq_true rfl) (Nat.le_of_ble_eq_true rfl) ?_
  refine W.eq (g2 := F0 m 4 ls []) rfl ?_
  refine lv_aload_n hx hb dX12_init_4 rfl (lv_at hl 0 rfl) ?_
  refine lv_sipush (v := 3968) hx hb dX12_init_5 (by decide) ?_
  refine gb_newa (atype := .int) (a0 := (3968, .inl (fun _ => 0))) hx hb (hq _ w_59) (ty := .int) rfl hK hP hS 1 hz rfl 0 rfl (fun h => h) (fun _ => rfl) (by decide) (by decide) (Nat.le_of_ble_eq_true rfl) (Nat.le_of_ble_eq_true rfl) (Nat.le_of_ble_eq_true rfl) dX12_init_8 (fun H hP hz hS => ?_)
  have hP : va_P D vwCl (gb_wl b [.inr (10, [.null, .null, .int 0, .int 0, .int 0, .int 0, .int 0, .int 0, .int 0, .int 0, .null, .int 0, .int 0, .null, .null, .null, .null, .null, .null, .null, .null, .null, .int 0, .int 0, .int 0, .int 0, .null, .null, .int 0, .int 0, .null, .null, .null, .long 0, .int 0, .int 0, .int 0, .null, .int 0, .null, .null, .int 0, .int 0, .null]), .inl (cT 0, 3968, .inl (fun _ => 0))]) H := hP
  refine W.widen (k := 1) (n := 3968) (Nat.le_of_ble_eq_true rfl) (Nat.le_of_ble_eq_true rfl) ?_
  refine gb_putF (ci := 10) (v := (.ref (b + 1))) (ty := .array .int) (C := RX12) (T := TX12) (N := 44) hx hb hq i_X12 tyX12 tyX12_ok nmX12 hown hK hP (fun k _ => Nat.le_add_right b k) hS hz 0 rfl rfl 0 (by decide) (hq _ w_1124) (fun _ h9 => h9) rfl hin rfl (by decide +kernel) rfl rfl (Nat.le_of_ble_eq_true rfl) dX12_init_10 (fun H locs hP hz hS => ?_)
  have hP : va_P D vwCl (gb_wl b [.inr (10, [.ref (b + 1), .null, .int 0, .int 0, .int 0, .int 0, .int 0, .int 0, .int 0, .int 0, .null, .int 0, .int 0, .null, .null, .null, .null, .null, .null, .null, .null, .null, .int 0, .int 0, .int 0, .int 0, .null, .null, .int 0, .int 0, .null, .null, .null, .long 0, .int 0, .int 0, .int 0, .null, .int 0, .null, .null, .int 0, .int 0, .null]), .inl (cT 0, 3968, .inl (fun _ => 0))]) H := hP
  refine lv_aload_n hx hb dX12_init_13 rfl (lv_at hl 0 rfl) ?_
  refine lv_iconst (v := 3) hx hb dX12_init_14 (by decide) ?_
  refine gb_newa (atype := .boolean) (a0 := (3, .inl (fun _ => 0))) hx hb (hq _ w_188) (ty := .boolean) rfl hK hP hS 2 hz rfl 2 rfl (fun h => h) (fun _ => rfl) (by decide) (by decide) (Nat.le_of_ble_eq_true rfl) (Nat.le_of_ble_eq_true rfl) (Nat.le_of_ble_eq_true rfl) dX12_init_15 (fun H hP hz hS => ?_)
  have hP : va_P D vwCl (gb_wl b [.inr (10, [.ref (b + 1), .null, .int 0, .int 0, .int 0, .int 0, .int 0, .int 0, .int 0, .int 0, .null, .int 0, .int 0, .null, .null, .null, .null, .null, .null, .null, .null, .null, .int 0, .int 0, .int 0, .int 0, .null, .null, .int 0, .int 0, .null, .null, .null, .long 0, .int 0, .int 0, .int 0, .null, .int 0, .null, .null, .int 0, .int 0, .null]), .inl (cT 0, 3968, .inl (fun _ => 0)), .inl (cT 2, 3, .inl (fun _ => 0))]) H := hP
  refine W.widen (k := 2) (n := 3971) (Nat.le_of_ble_eq_true rfl) (Nat.le_of_ble_eq_true rfl) ?_
  refine gb_putF (ci := 10) (v := (.ref (b + 2))) (ty := .array .boolean) (C := RX12) (T := TX12) (N := 44) hx hb hq i_X12 tyX12 tyX12_ok nmX12 hown hK hP (fun k _ => Nat.le_add_right b k) hS hz 0 rfl rfl 1 (by decide) (hq _ w_1125) (fun _ h9 => h9) rfl hin rfl (by decide +kernel) rfl rfl (Nat.le_of_ble_eq_true rfl) dX12_init_17 (fun H locs hP hz hS => ?_)
  have hP : va_P D vwCl (gb_wl b [.inr (10, [.ref (b + 1), .ref (b + 2), .int 0, .int 0, .int 0, .int 0, .int 0, .int 0, .int 0, .int 0, .null, .int 0, .int 0, .null, .null, .null, .null, .null, .null, .null, .null, .null, .int 0, .int 0, .int 0, .int 0, .null, .null, .int 0, .int 0, .null, .null, .null, .long 0, .int 0, .int 0, .int 0, .null, .int 0, .null, .null, .int 0, .int 0, .null]), .inl (cT 0, 3968, .inl (fun _ => 0)), .inl (cT 2, 3, .inl (fun _ => 0))]) H := hP
  refine lv_aload_n hx hb dX12_init_20 rfl (lv_at hl 0 rfl) ?_
  refine lv_bipush (v := 97) hx hb dX12_init_21 (by decide) ?_
  refine gb_newa (atype := .int) (a0 := (97, .inl (fun _ => 0))) hx hb (hq _ w_59) (ty := .int) rfl hK hP hS 3 hz rfl 0 rfl (fun h => h) (fun _ => rfl) (by decide) (by decide) (Nat.le_of_ble_eq_true rfl) (Nat.le_of_ble_eq_true rfl) (Nat.le_of_ble_eq_true rfl) dX12_init_23 (fun H hP hz hS => ?_)
  have hP : va_P D vwCl (gb_wl b [.inr (10, [.ref (b + 1), .ref (b + 2), .int 0, .int 0, .int 0, .int 0, .int 0, .int 0, .int 0, .int 0, .null, .int 0, .int 0, .null, .null, .null, .null, .null, .null, .null, .null, .null, .int 0, .int 0, .int 0, .int 0, .null, .null, .int 0, .int 0, .null, .null, .null, .long 0, .int 0, .int 0, .int 0, .null, .int 0, .null, .null, .int 0, .int 0, .null]), .inl (cT 0, 3968, .inl (fun _ => 0)), .inl (cT 2, 3, .inl (fun _ => 0)), .inl (cT 0, 97, .inl (fun _ => 0))]) H := hP
  refine W.widen (k := 3) (n := 4068) (Nat.le_of_ble_eq_true rfl) (Nat.le_of_ble_eq_true rfl) ?_
  refine gb_putF (ci := 10) (v := (.ref (b + 3))) (ty := .array .int) (C := RX12) (T := TX12) (N := 44) hx hb hq i_X12 tyX12 tyX12_ok nmX12 hown hK hP (fun k _ => Nat.le_add_right b k) hS hz 0 rfl rfl 10 (by decide) (hq _ w_1134) (fun _ h9 => h9) rfl hin rfl (by decide +kernel) rfl rfl (Nat.le_of_ble_eq_true rfl) dX12_init_25 (fun H locs hP hz hS => ?_)
  have hP : va_P D vwCl (gb_wl b [.inr (10, [.ref (b + 1), .ref (b + 2), .int 0, .int 0, .int 0, .int 0, .int 0, .int 0, .int 0, .int 0, .ref (b + 3), .int 0, .int 0, .null, .null, .null, .null, .null, .null, .null, .null, .null, .int 0, .int 0, .int 0, .int 0, .null, .null, .int 0, .int 0, .null, .null, .null, .long 0, .int 0, .int 0, .int 0, .null, .int 0, .null, .null, .int 0, .int 0, .null]), .inl (cT 0, 3968, .inl (fun _ => 0)), .inl (cT 2, 3, .inl (fun _ => 0)), .inl (cT 0, 97, .inl (fun _ => 0))]) H := hP
  refine lv_aload_n hx hb dX12_init_28 rfl (lv_at hl 0 rfl) ?_
  refine lv_bipush (v := 8) hx hb dX12_init_29 (by decide) ?_
  refine gb_newa (atype := .int) (a0 := (8, .inl (fun _ => 0))) hx hb (hq _ w_59) (ty := .int) rfl hK hP hS 4 hz rfl 0 rfl (fun h => h) (fun _ => rfl) (by decide) (by decide) (Nat.le_of_ble_eq_true rfl) (Nat.le_of_ble_eq_true rfl) (Nat.le_of_ble_eq_true rfl) dX12_init_31 (fun H hP hz hS => ?_)
  have hP : va_P D vwCl (gb_wl b [.inr (10, [.ref (b + 1), .ref (b + 2), .int 0, .int 0, .int 0, .int 0, .int 0, .int 0, .int 0, .int 0, .ref (b + 3), .int 0, .int 0, .null, .null, .null, .null, .null, .null, .null, .null, .null, .int 0, .int 0, .int 0, .int 0, .null, .null, .int 0, .int 0, .null, .null, .null, .long 0, .int 0, .int 0, .int 0, .null, .int 0, .null, .null, .int 0, .int 0, .null]), .inl (cT 0, 3968, .inl (fun _ => 0)), .inl (cT 2, 3, .inl (fun _ => 0)), .inl (cT 0, 97, .inl (fun _ => 0)), .inl (cT 0, 8, .inl (fun _ => 0))]) H := hP
  refine W.widen (k := 4) (n := 4076) (Nat.le_of_ble_eq_true rfl) (Nat.le_of_ble_eq_true rfl) ?_
  refine gb_putF (ci := 10) (v := (.ref (b + 4))) (ty := .array .int) (C := RX12) (T := TX12) (N := 44) hx hb hq i_X12 tyX12 tyX12_ok nmX12 hown hK hP (fun k _ => Nat.le_add_right b k) hS hz 0 rfl rfl 13 (by decide) (hq _ w_1137) (fun _ h9 => h9) rfl hin rfl (by decide +kernel) rfl rfl (Nat.le_of_ble_eq_true rfl) dX12_init_33 (fun H locs hP hz hS => ?_)
  have hP : va_P D vwCl (gb_wl b [.inr (10, [.ref (b + 1), .ref (b + 2), .int 0, .int 0, .int 0, .int 0, .int 0, .int 0, .int 0, .int 0, .ref (b + 3), .int 0, .int 0, .ref (b + 4), .null, .null, .null, .null, .null, .null, .null, .null, .int 0, .int 0, .int 0, .int 0, .null, .null, .int 0, .int 0, .null, .null, .null, .long 0, .int 0, .int 0, .int 0, .null, .int 0, .null, .null, .int 0, .int 0, .null]), .inl (cT 0, 3968, .inl (fun _ => 0)), .inl (cT 2, 3, .inl (fun _ => 0)), .inl (cT 0, 97, .inl (fun _ => 0)), .inl (cT 0, 8, .inl (fun _ => 0))]) H := hP
  refine lv_aload_n hx hb dX12_init_36 rfl (lv_at hl 0 rfl) ?_
  refine lv_bipush (v := 8) hx hb dX12_init_37 (by decide) ?_
  refine gb_newa (atype := .int) (a0 := (8, .inl (fun _ => 0))) hx hb (hq _ w_59) (ty := .int) rfl hK hP hS 5 hz rfl 0 rfl (fun h => h) (fun _ => rfl) (by decide) (by decide) (Nat.le_of_ble_eq_true rfl) (Nat.le_of_ble_eq_true rfl) (Nat.le_of_ble_eq_true rfl) dX12_init_39 (fun H hP hz hS => ?_)
  have hP : va_P D vwCl (gb_wl b [.inr (10, [.ref (b + 1), .ref (b + 2), .int 0, .int 0, .int 0, .int 0, .int 0, .int 0, .int 0, .int 0, .ref (b + 3), .int 0, .int 0, .ref (b + 4), .null, .null, .null, .null, .null, .null, .null, .null, .int 0, .int 0, .int 0, .int 0, .null, .null, .int 0, .int 0, .null, .null, .null, .long 0, .int 0, .int 0, .int 0, .null, .int 0, .null, .null, .int 0, .int 0, .null]), .inl (cT 0, 3968, .inl (fun _ => 0)), .inl (cT 2, 3, .inl (fun _ => 0)), .inl (cT 0, 97, .inl (fun _ => 0)), .inl (cT 0, 8, .inl (fun _ => 0)), .inl (cT 0, 8, .inl (fun _ => 0))]) H := hP
  refine W.widen (k := 5) (n := 4084) (Nat.le_of_ble_eq_true rfl) (Nat.le_of_ble_eq_true rfl) ?_
  refine gb_putF (ci := 10) (v := (.ref (b + 5))) (ty := .array .int) (C := RX12) (T := TX12) (N := 44) hx hb hq i_X12 tyX12 tyX12_ok nmX12 hown hK hP (fun k _ => Nat.le_add_right b k) hS hz 0 rfl rfl 14 (by decide) (hq _ w_1138) (fun _ h9 => h9) rfl hin rfl (by decide +kernel) rfl rfl (Nat.le_of_ble_eq_true rfl) dX12_init_41 (fun H locs hP hz hS => ?_)
  have hP : va_P D vwCl (gb_wl b [.inr (10, [.ref (b + 1), .ref (b + 2), .int 0, .int 0, .int 0, .int 0, .int 0, .int 0, .int 0, .int 0, .ref (b + 3), .int 0, .int 0, .ref (b + 4), .ref (b + 5), .null, .null, .null, .null, .null, .null, .null, .int 0, .int 0, .int 0, .int 0, .null, .null, .int 0, .int 0, .null, .null, .null, .long 0, .int 0, .int 0, .int 0, .null, .int 0, .null, .null, .int 0, .int 0, .null]), .inl (cT 0, 3968, .inl (fun _ => 0)), .inl (cT 2, 3, .inl (fun _ => 0)), .inl (cT 0, 97, .inl (fun _ => 0)), .inl (cT 0, 8, .inl (fun _ => 0)), .inl (cT 0, 8, .inl (fun _ => 0))]) H := hP
  refine lv_aload_n hx hb dX12_init_44 rfl (lv_at hl 0 rfl) ?_
  refine lv_bipush (v := 8) hx hb dX12_init_45 (by decide) ?_
  refine gb_newa (atype := .int) (a0 := (8, .inl (fun _ => 0))) hx hb (hq _ w_59) (ty := .int) rfl hK hP hS 6 hz rfl 0 rfl (fun h => h) (fun _ => rfl) (by decide) (by decide) (Nat.le_of_ble_eq_true rfl) (Nat.le_of_ble_eq_true rfl) (Nat.le_of_ble_eq_true rfl) dX12_init_47 (fun H hP hz hS => ?_)
  have hP : va_P D vwCl (gb_wl b [.inr (10, [.ref (b + 1), .ref (b + 2), .int 0, .int 0, .int 0, .int 0, .int 0, .int 0, .int 0, .int 0, .ref (b + 3), .int 0, .int 0, .ref (b + 4), .ref (b + 5), .null, .null, .null, .null, .null, .null, .null, .int 0, .int 0, .int 0, .int 0, .null, .null, .int 0, .int 0, .null, .null, .null, .long 0, .int 0, .int 0, .int 0, .null, .int 0, .null, .null, .int 0, .int 0, .null]), .inl (cT 0, 3968, .inl (fun _ => 0)), .inl (cT 2, 3, .inl (fun _ => 0)), .inl (cT 0, 97, .inl (fun _ => 0)), .inl (cT 0, 8, .inl (fun _ => 0)), .inl (cT 0, 8, .inl (fun _ => 0)), .inl (cT 0, 8, .inl (fun _ => 0))]) H := hP
  refine W.widen (k := 6) (n := 4092) (Nat.le_of_ble_eq_true rfl) (Nat.le_of_ble_eq_true rfl) ?_
  refine gb_putF (ci := 10) (v := (.ref (b + 6))) (ty := .array .int) (C := RX12) (T := TX12) (N := 44) hx hb hq i_X12 tyX12 tyX12_ok nmX12 hown hK hP (fun k _ => Nat.le_add_right b k) hS hz 0 rfl rfl 15 (by decide) (hq _ w_1139) (fun _ h9 => h9) rfl hin rfl (by decide +kernel) rfl rfl (Nat.le_of_ble_eq_true rfl) dX12_init_49 (fun H locs hP hz hS => ?_)
  have hP : va_P D vwCl (gb_wl b [.inr (10, [.ref (b + 1), .ref (b + 2), .int 0, .int 0, .int 0, .int 0, .int 0, .int 0, .int 0, .int 0, .ref (b + 3), .int 0, .int 0, .ref (b + 4), .ref (b + 5), .ref (b + 6), .null, .null, .null, .null, .null, .null, .int 0, .int 0, .int 0, .int 0, .null, .null, .int 0, .int 0, .null, .null, .null, .long 0, .int 0, .int 0, .int 0, .null, .int 0, .null, .null, .int 0, .int 0, .null]), .inl (cT 0, 3968, .inl (fun _ => 0)), .inl (cT 2, 3, .inl (fun _ => 0)), .inl (cT 0, 97, .inl (fun _ => 0)), .inl (cT 0, 8, .inl (fun _ => 0)), .inl (cT 0, 8, .inl (fun _ => 0)), .inl (cT 0, 8, .inl (fun _ => 0))]) H := hP
  refine lv_aload_n hx hb dX12_init_52 rfl (lv_at hl 0 rfl) ?_
  refine lv_bipush (v := 8) hx hb dX12_init_53 (by decide) ?_
  refine gb_newa (atype := .int) (a0 := (8, .inl (fun _ => 0))) hx hb (hq _ w_59) (ty := .int) rfl hK hP hS 7 hz rfl 0 rfl (fun h => h) (fun _ => rfl) (by decide) (by decide) (Nat.le_of_ble_eq_true rfl) (Nat.le_of_ble_eq_true rfl) (Nat.le_of_ble_eq_true rfl) dX12_init_55 (fun H hP hz hS => ?_)
  have hP : va_P D vwCl (gb_wl b [.inr (10, [.ref (b + 1), .ref (b + 2), .int 0, .int 0, .int 0, .int 0, .int 0, .int 0, .int 0, .int 0, .ref (b + 3), .int 0, .int 0, .ref (b + 4), .ref (b + 5), .ref (b + 6), .null, .null, .null, .null, .null, .null, .int 0, .int 0, .int 0, .int 0, .null, .null, .int 0, .int 0, .null, .null, .null, .long 0, .int 0, .int 0, .int 0, .null, .int 0, .null, .null, .int 0, .int 0, .null]), .inl (cT 0, 3968, .inl (fun _ => 0)), .inl (cT 2, 3, .inl (fun _ => 0)), .inl (cT 0, 97, .inl (fun _ => 0)), .inl (cT 0, 8, .inl (fun _ => 0)), .inl (cT 0, 8, .inl (fun _ => 0)), .inl (cT 0, 8, .inl (fun _ => 0)), .inl (cT 0, 8, .inl (fun _ => 0))]) H := hP
  refine W.widen (k := 7) (n := 4100) (Nat.le_of_ble_eq_true rfl) (Nat.le_of_ble_eq_true rfl) ?_
  refine gb_putF (ci := 10) (v := (.ref (b + 7))) (ty := .array .int) (C := RX12) (T := TX12) (N := 44) hx hb hq i_X12 tyX12 tyX12_ok nmX12 hown hK hP (fun k _ => Nat.le_add_right b k) hS hz 0 rfl rfl 16 (by decide) (hq _ w_1140) (fun _ h9 => h9) rfl hin rfl (by decide +kernel) rfl rfl (Nat.le_of_ble_eq_true rfl) dX12_init_57 (fun H locs hP hz hS => ?_)
  have hP : va_P D vwCl (gb_wl b [.inr (10, [.ref (b + 1), .ref (b + 2), .int 0, .int 0, .int 0, .int 0, .int 0, .int 0, .int 0, .int 0, .ref (b + 3), .int 0, .int 0, .ref (b + 4), .ref (b + 5), .ref (b + 6), .ref (b + 7), .null, .null, .null, .null, .null, .int 0, .int 0, .int 0, .int 0, .null, .null, .int 0, .int 0, .null, .null, .null, .long 0, .int 0, .int 0, .int 0, .null, .int 0, .null, .null, .int 0, .int 0, .null]), .inl (cT 0, 3968, .inl (fun _ => 0)), .inl (cT 2, 3, .inl (fun _ => 0)), .inl (cT 0, 97, .inl (fun _ => 0)), .inl (cT 0, 8, .inl (fun _ => 0)), .inl (cT 0, 8, .inl (fun _ => 0)), .inl (cT 0, 8, .inl (fun _ => 0)), .inl (cT 0, 8, .inl (fun _ => 0))]) H := hP
  refine lv_aload_n hx hb dX12_init_60 rfl (lv_at hl 0 rfl) ?_
  refine lv_bipush (v := 8) hx hb dX12_init_61 (by decide) ?_
  refine gb_newa (atype := .boolean) (a0 := (8, .inl (fun _ => 0))) hx hb (hq _ w_188) (ty := .boolean) rfl hK hP hS 8 hz rfl 2 rfl (fun h => h) (fun _ => rfl) (by decide) (by decide) (Nat.le_of_ble_eq_true rfl) (Nat.le_of_ble_eq_true rfl) (Nat.le_of_ble_eq_true rfl) dX12_init_63 (fun H hP hz hS => ?_)
  have hP : va_P D vwCl (gb_wl b [.inr (10, [.ref (b + 1), .ref (b + 2), .int 0, .int 0, .int 0, .int 0, .int 0, .int 0, .int 0, .int 0, .ref (b + 3), .int 0, .int 0, .ref (b + 4), .ref (b + 5), .ref (b + 6), .ref (b + 7), .null, .null, .null, .null, .null, .int 0, .int 0, .int 0, .int 0, .null, .null, .int 0, .int 0, .null, .null, .null, .long 0, .int 0, .int 0, .int 0, .null, .int 0, .null, .null, .int 0, .int 0, .null]), .inl (cT 0, 3968, .inl (fun _ => 0)), .inl (cT 2, 3, .inl (fun _ => 0)), .inl (cT 0, 97, .inl (fun _ => 0)), .inl (cT 0, 8, .inl (fun _ => 0)), .inl (cT 0, 8, .inl (fun _ => 0)), .inl (cT 0, 8, .inl (fun _ => 0)), .inl (cT 0, 8, .inl (fun _ => 0)), .inl (cT 2, 8, .inl (fun _ => 0))]) H := hP
  refine W.widen (k := 8) (n := 4108) (Nat.le_of_ble_eq_true rfl) (Nat.le_of_ble_eq_true rfl) ?_
  refine gb_putF (ci := 10) (v := (.ref (b + 8))) (ty := .array .boolean) (C := RX12) (T := TX12) (N := 44) hx hb hq i_X12 tyX12 tyX12_ok nmX12 hown hK hP (fun k _ => Nat.le_add_right b k) hS hz 0 rfl rfl 17 (by decide) (hq _ w_1141) (fun _ h9 => h9) rfl hin rfl (by decide +kernel) rfl rfl (Nat.le_of_ble_eq_true rfl) dX12_init_65 (fun H locs hP hz hS => ?_)
  have hP : va_P D vwCl (gb_wl b [.inr (10, [.ref (b + 1), .ref (b + 2), .int 0, .int 0, .int 0, .int 0, .int 0, .int 0, .int 0, .int 0, .ref (b + 3), .int 0, .int 0, .ref (b + 4), .ref (b + 5), .ref (b + 6), .ref (b + 7), .ref (b + 8), .null, .null, .null, .null, .int 0, .int 0, .int 0, .int 0, .null, .null, .int 0, .int 0, .null, .null, .null, .long 0, .int 0, .int 0, .int 0, .null, .int 0, .null, .null, .int 0, .int 0, .null]), .inl (cT 0, 3968, .inl (fun _ => 0)), .inl (cT 2, 3, .inl (fun _ => 0)), .inl (cT 0, 97, .inl (fun _ => 0)), .inl (cT 0, 8, .inl (fun _ => 0)), .inl (cT 0, 8, .inl (fun _ => 0)), .inl (cT 0, 8, .inl (fun _ => 0)), .inl (cT 0, 8, .inl (fun _ => 0)), .inl (cT 2, 8, .inl (fun _ => 0))]) H := hP
  refine lv_aload_n hx hb dX12_init_68 rfl (lv_at hl 0 rfl) ?_
  refine lv_bipush (v := 40) hx hb dX12_init_69 (by decide) ?_
  refine gb_newa (atype := .int) (a0 := (40, .inl (fun _ => 0))) hx hb (hq _ w_59) (ty := .int) rfl hK hP hS 9 hz rfl 0 rfl (fun h => h) (fun _ => rfl) (by decide) (by decide) (Nat.le_of_ble_eq_true rfl) (Nat.le_of_ble_eq_true rfl) (Nat.le_of_ble_eq_true rfl) dX12_init_71 (fun H hP hz hS => ?_)
  have hP : va_P D vwCl (gb_wl b [.inr (10, [.ref (b + 1), .ref (b + 2), .int 0, .int 0, .int 0, .int 0, .int 0, .int 0, .int 0, .int 0, .ref (b + 3), .int 0, .int 0, .ref (b + 4), .ref (b + 5), .ref (b + 6), .ref (b + 7), .ref (b + 8), .null, .null, .null, .null, .int 0, .int 0, .int 0, .int 0, .null, .null, .int 0, .int 0, .null, .null, .null, .long 0, .int 0, .int 0, .int 0, .null, .int 0, .null, .null, .int 0, .int 0, .null]), .inl (cT 0, 3968, .inl (fun _ => 0)), .inl (cT 2, 3, .inl (fun _ => 0)), .inl (cT 0, 97, .inl (fun _ => 0)), .inl (cT 0, 8, .inl (fun _ => 0)), .inl (cT 0, 8, .inl (fun _ => 0)), .inl (cT 0, 8, .inl (fun _ => 0)), .inl (cT 0, 8, .inl (fun _ => 0)), .inl (cT 2, 8, .inl (fun _ => 0)), .inl (cT 0, 40, .inl (fun _ => 0))]) H := hP
  refine W.widen (k := 9) (n := 4148) (Nat.le_of_ble_eq_true rfl) (Nat.le_of_ble_eq_true rfl) ?_
  refine gb_putF (ci := 10) (v := (.ref (b + 9))) (ty := .array .int) (C := RX12) (T := TX12) (N := 44) hx hb hq i_X12 tyX12 tyX12_ok nmX12 hown hK hP (fun k _ => Nat.le_add_right b k) hS hz 0 rfl rfl 18 (by decide) (hq _ w_1142) (fun _ h9 => h9) rfl hin rfl (by decide +kernel) rfl rfl (Nat.le_of_ble_eq_true rfl) dX12_init_73 (fun H locs hP hz hS => ?_)
  have hP : va_P D vwCl (gb_wl b [.inr (10, [.ref (b + 1), .ref (b + 2), .int 0, .int 0, .int 0, .int 0, .int 0, .int 0, .int 0, .int 0, .ref (b + 3), .int 0, .int 0, .ref (b + 4), .ref (b + 5), .ref (b + 6), .ref (b + 7), .ref (b + 8), .ref (b + 9), .null, .null, .null, .int 0, .int 0, .int 0, .int 0, .null, .null, .int 0, .int 0, .null, .null, .null, .long 0, .int 0, .int 0, .int 0, .null, .int 0, .null, .null, .int 0, .int 0, .null]), .inl (cT 0, 3968, .inl (fun _ => 0)), .inl (cT 2, 3, .inl (fun _ => 0)), .inl (cT 0, 97, .inl (fun _ => 0)), .inl (cT 0, 8, .inl (fun _ => 0)), .inl (cT 0, 8, .inl (fun _ => 0)), .inl (cT 0, 8, .inl (fun _ => 0)), .inl (cT 0, 8, .inl (fun _ => 0)), .inl (cT 2, 8, .inl (fun _ => 0)), .inl (cT 0, 40, .inl (fun _ => 0))]) H := hP
  refine lv_aload_n hx hb dX12_init_76 rfl (lv_at hl 0 rfl) ?_
  refine lv_iconst (v := 5) hx hb dX12_init_77 (by decide) ?_
  refine gb_newa (atype := .int) (a0 := (5, .inl (fun _ => 0))) hx hb (hq _ w_59) (ty := .int) rfl hK hP hS 10 hz rfl 0 rfl (fun h => h) (fun _ => rfl) (by decide) (by decide) (Nat.le_of_ble_eq_true rfl) (Nat.le_of_ble_eq_true rfl) (Nat.le_of_ble_eq_true rfl) dX12_init_78 (fun H hP hz hS => ?_)
  have hP : va_P D vwCl (gb_wl b [.inr (10, [.ref (b + 1), .ref (b + 2), .int 0, .int 0, .int 0, .int 0, .int 0, .int 0, .int 0, .int 0, .ref (b + 3), .int 0, .int 0, .ref (b + 4), .ref (b + 5), .ref (b + 6), .ref (b + 7), .ref (b + 8), .ref (b + 9), .null, .null, .null, .int 0, .int 0, .int 0, .int 0, .null, .null, .int 0, .int 0, .null, .null, .null, .long 0, .int 0, .int 0, .int 0, .null, .int 0, .null, .null, .int 0, .int 0, .null]), .inl (cT 0, 3968, .inl (fun _ => 0)), .inl (cT 2, 3, .inl (fun _ => 0)), .inl (cT 0, 97, .inl (fun _ => 0)), .inl (cT 0, 8, .inl (fun _ => 0)), .inl (cT 0, 8, .inl (fun _ => 0)), .inl (cT 0, 8, .inl (fun _ => 0)), .inl (cT 0, 8, .inl (fun _ => 0)), .inl (cT 2, 8, .inl (fun _ => 0)), .inl (cT 0, 40, .inl (fun _ => 0)), .inl (cT 0, 5, .inl (fun _ => 0))]) H := hP
  refine W.widen (k := 10) (n := 4153) (Nat.le_of_ble_eq_true rfl) (Nat.le_of_ble_eq_true rfl) ?_
  refine gb_putF (ci := 10) (v := (.ref (b + 10))) (ty := .array .int) (C := RX12) (T := TX12) (N := 44) hx hb hq i_X12 tyX12 tyX12_ok nmX12 hown hK hP (fun k _ => Nat.le_add_right b k) hS hz 0 rfl rfl 19 (by decide) (hq _ w_1143) (fun _ h9 => h9) rfl hin rfl (by decide +kernel) rfl rfl (Nat.le_of_ble_eq_true rfl) dX12_init_80 (fun H locs hP hz hS => ?_)
  have hP : va_P D vwCl (gb_wl b [.inr (10, [.ref (b + 1), .ref (b + 2), .int 0, .int 0, .int 0, .int 0, .int 0, .int 0, .int 0, .int 0, .ref (b + 3), .int 0, .int 0, .ref (b + 4), .ref (b + 5), .ref (b + 6), .ref (b + 7), .ref (b + 8), .ref (b + 9), .ref (b + 10), .null, .null, .int 0, .int 0, .int 0, .int 0, .null, .null, .int 0, .int 0, .null, .null, .null, .long 0, .int 0, .int 0, .int 0, .null, .int 0, .null, .null, .int 0, .int 0, .null]), .inl (cT 0, 3968, .inl (fun _ => 0)), .inl (cT 2, 3, .inl (fun _ => 0)), .inl (cT 0, 97, .inl (fun _ => 0)), .inl (cT 0, 8, .inl (fun _ => 0)), .inl (cT 0, 8, .inl (fun _ => 0)), .inl (cT 0, 8, .inl (fun _ => 0)), .inl (cT 0, 8, .inl (fun _ => 0)), .inl (cT 2, 8, .inl (fun _ => 0)), .inl (cT 0, 40, .inl (fun _ => 0)), .inl (cT 0, 5, .inl (fun _ => 0))]) H := hP
  refine lv_aload_n hx hb dX12_init_83 rfl (lv_at hl 0 rfl) ?_
  refine lv_iconst (v := 5) hx hb dX12_init_84 (by decide) ?_
  refine gb_newa (atype := .int) (a0 := (5, .inl (fun _ => 0))) hx hb (hq _ w_59) (ty := .int) rfl hK hP hS 11 hz rfl 0 rfl (fun h => h) (fun _ => rfl) (by decide) (by decide) (Nat.le_of_ble_eq_true rfl) (Nat.le_of_ble_eq_true rfl) (Nat.le_of_ble_eq_true rfl) dX12_init_85 (fun H hP hz hS => ?_)
  have hP : va_P D vwCl (gb_wl b [.inr (10, [.ref (b + 1), .ref (b + 2), .int 0, .int 0, .int 0, .int 0, .int 0, .int 0, .int 0, .int 0, .ref (b + 3), .int 0, .int 0, .ref (b + 4), .ref (b + 5), .ref (b + 6), .ref (b + 7), .ref (b + 8), .ref (b + 9), .ref (b + 10), .null, .null, .int 0, .int 0, .int 0, .int 0, .null, .null, .int 0, .int 0, .null, .null, .null, .long 0, .int 0, .int 0, .int 0, .null, .int 0, .null, .null, .int 0, .int 0, .null]), .inl (cT 0, 3968, .inl (fun _ => 0)), .inl (cT 2, 3, .inl (fun _ => 0)), .inl (cT 0, 97, .inl (fun _ => 0)), .inl (cT 0, 8, .inl (fun _ => 0)), .inl (cT 0, 8, .inl (fun _ => 0)), .inl (cT 0, 8, .inl (fun _ => 0)), .inl (cT 0, 8, .inl (fun _ => 0)), .inl (cT 2, 8, .inl (fun _ => 0)), .inl (cT 0, 40, .inl (fun _ => 0)), .inl (cT 0, 5, .inl (fun _ => 0)), .inl (cT 0, 5, .inl (fun _ => 0))]) H := hP
  refine W.widen (k := 11) (n := 4158) (Nat.le_of_ble_eq_true rfl) (Nat.le_of_ble_eq_true rfl) ?_
  refine gb_putF (ci := 10) (v := (.ref (b + 11))) (ty := .array .int) (C := RX12) (T := TX12) (N := 44) hx hb hq i_X12 tyX12 tyX12_ok nmX12 hown hK hP (fun k _ => Nat.le_add_right b k) hS hz 0 rfl rfl 20 (by decide) (hq _ w_1144) (fun _ h9 => h9) rfl hin rfl (by decide +kernel) rfl rfl (Nat.le_of_ble_eq_true rfl) dX12_init_87 (fun H locs hP hz hS => ?_)
  have hP : va_P D vwCl (gb_wl b [.inr (10, [.ref (b + 1), .ref (b + 2), .int 0, .int 0, .int 0, .int 0, .int 0, .int 0, .int 0, .int 0, .ref (b + 3), .int 0, .int 0, .ref (b + 4), .ref (b + 5), .ref (b + 6), .ref (b + 7), .ref (b + 8), .ref (b + 9), .ref (b + 10), .ref (b + 11), .null, .int 0, .int 0, .int 0, .int 0, .null, .null, .int 0, .int 0, .null, .null, .null, .long 0, .int 0, .int 0, .int 0, .null, .int 0, .null, .null, .int 0, .int 0, .null]), .inl (cT 0, 3968, .inl (fun _ => 0)), .inl (cT 2, 3, .inl (fun _ => 0)), .inl (cT 0, 97, .inl (fun _ => 0)), .inl (cT 0, 8, .inl (fun _ => 0)), .inl (cT 0, 8, .inl (fun _ => 0)), .inl (cT 0, 8, .inl (fun _ => 0)), .inl (cT 0, 8, .inl (fun _ => 0)), .inl (cT 2, 8, .inl (fun _ => 0)), .inl (cT 0, 40, .inl (fun _ => 0)), .inl (cT 0, 5, .inl (fun _ => 0)), .inl (cT 0, 5, .inl (fun _ => 0))]) H := hP
  refine lv_aload_n hx hb dX12_init_90 rfl (lv_at hl 0 rfl) ?_
  refine lv_iconst (v := 5) hx hb dX12_init_91 (by decide) ?_
  refine gb_newa (atype := .int) (a0 := (5, .inl (fun _ => 0))) hx hb (hq _ w_59) (ty := .int) rfl hK hP hS 12 hz rfl 0 rfl (fun h => h) (fun _ => rfl) (by decide) (by decide) (Nat.le_of_ble_eq_true rfl) (Nat.le_of_ble_eq_true rfl) (Nat.le_of_ble_eq_true rfl) dX12_init_92 (fun H hP hz hS => ?_)
  have hP : va_P D vwCl (gb_wl b [.inr (10, [.ref (b + 1), .ref (b + 2), .int 0, .int 0, .int 0, .int 0, .int 0, .int 0, .int 0, .int 0, .ref (b + 3), .int 0, .int 0, .ref (b + 4), .ref (b + 5), .ref (b + 6), .ref (b + 7), .ref (b + 8), .ref (b + 9), .ref (b + 10), .ref (b + 11), .null, .int 0, .int 0, .int 0, .int 0, .null, .null, .int 0, .int 0, .null, .null, .null, .long 0, .int 0, .int 0, .int 0, .null, .int 0, .null, .null, .int 0, .int 0, .null]), .inl (cT 0, 3968, .inl (fun _ => 0)), .inl (cT 2, 3, .inl (fun _ => 0)), .inl (cT 0, 97, .inl (fun _ => 0)), .inl (cT 0, 8, .inl (fun _ => 0)), .inl (cT 0, 8, .inl (fun _ => 0)), .inl (cT 0, 8, .inl (fun _ => 0)), .inl (cT 0, 8, .inl (fun _ => 0)), .inl (cT 2, 8, .inl (fun _ => 0)), .inl (cT 0, 40, .inl (fun _ => 0)), .inl (cT 0, 5, .inl (fun _ => 0)), .inl (cT 0, 5, .inl (fun _ => 0)), .inl (cT 0, 5, .inl (fun _ => 0))]) H := hP
  refine W.widen (k := 12) (n := 4163) (Nat.le_of_ble_eq_true rfl) (Nat.le_of_ble_eq_true rfl) ?_
  refine gb_putF (ci := 10) (v := (.ref (b + 12))) (ty := .array .int) (C := RX12) (T := TX12) (N := 44) hx hb hq i_X12 tyX12 tyX12_ok nmX12 hown hK hP (fun k _ => Nat.le_add_right b k) hS hz 0 rfl rfl 21 (by decide) (hq _ w_1145) (fun _ h9 => h9) rfl hin rfl (by decide +kernel) rfl rfl (Nat.le_of_ble_eq_true rfl) dX12_init_94 (fun H locs hP hz hS => ?_)
  have hP : va_P D vwCl (gb_wl b [.inr (10, [.ref (b + 1), .ref (b + 2), .int 0, .int 0, .int 0, .int 0, .int 0, .int 0, .int 0, .int 0, .ref (b + 3), .int 0, .int 0, .ref (b + 4), .ref (b + 5), .ref (b + 6), .ref (b + 7), .ref (b + 8), .ref (b + 9), .ref (b + 10), .ref (b + 11), .ref (b + 12), .int 0, .int 0, .int 0, .int 0, .null, .null, .int 0, .int 0, .null, .null, .null, .long 0, .int 0, .int 0, .int 0, .null, .int 0, .null, .null, .int 0, .int 0, .null]), .inl (cT 0, 3968, .inl (fun _ => 0)), .inl (cT 2, 3, .inl (fun _ => 0)), .inl (cT 0, 97, .inl (fun _ => 0)), .inl (cT 0, 8, .inl (fun _ => 0)), .inl (cT 0, 8, .inl (fun _ => 0)), .inl (cT 0, 8, .inl (fun _ => 0)), .inl (cT 0, 8, .inl (fun _ => 0)), .inl (cT 2, 8, .inl (fun _ => 0)), .inl (cT 0, 40, .inl (fun _ => 0)), .inl (cT 0, 5, .inl (fun _ => 0)), .inl (cT 0, 5, .inl (fun _ => 0)), .inl (cT 0, 5, .inl (fun _ => 0))]) H := hP
  refine lv_aload_n hx hb dX12_init_97 rfl (lv_at hl 0 rfl) ?_
  refine lv_bipush (v := 40) hx hb dX12_init_98 (by decide) ?_
  refine gb_newa (atype := .int) (a0 := (40, .inl (fun _ => 0))) hx hb (hq _ w_59) (ty := .int) rfl hK hP hS 13 hz rfl 0 rfl (fun h => h) (fun _ => rfl) (by decide) (by decide) (Nat.le_of_ble_eq_true rfl) (Nat.le_of_ble_eq_true rfl) (Nat.le_of_ble_eq_true rfl) dX12_init_100 (fun H hP hz hS => ?_)
  have hP : va_P D vwCl (gb_wl b [.inr (10, [.ref (b + 1), .ref (b + 2), .int 0, .int 0, .int 0, .int 0, .int 0, .int 0, .int 0, .int 0, .ref (b + 3), .int 0, .int 0, .ref (b + 4), .ref (b + 5), .ref (b + 6), .ref (b + 7), .ref (b + 8), .ref (b + 9), .ref (b + 10), .ref (b + 11), .ref (b + 12), .int 0, .int 0, .int 0, .int 0, .null, .null, .int 0, .int 0, .null, .null, .null, .long 0, .int 0, .int 0, .int 0, .null, .int 0, .null, .null, .int 0, .int 0, .null]), .inl (cT 0, 3968, .inl (fun _ => 0)), .inl (cT 2, 3, .inl (fun _ => 0)), .inl (cT 0, 97, .inl (fun _ => 0)), .inl (cT 0, 8, .inl (fun _ => 0)), .inl (cT 0, 8, .inl (fun _ => 0)), .inl (cT 0, 8, .inl (fun _ => 0)), .inl (cT 0, 8, .inl (fun _ => 0)), .inl (cT 2, 8, .inl (fun _ => 0)), .inl (cT 0, 40, .inl (fun _ => 0)), .inl (cT 0, 5, .inl (fun _ => 0)), .inl (cT 0, 5, .inl (fun _ => 0)), .inl (cT 0, 5, .inl (fun _ => 0)), .inl (cT 0, 40, .inl (fun _ => 0))]) H := hP
  refine W.widen (k := 13) (n := 4203) (Nat.le_of_ble_eq_true rfl) (Nat.le_of_ble_eq_true rfl) ?_
  refine gb_putF (ci := 10) (v := (.ref (b + 13))) (ty := .array .int) (C := RX12) (T := TX12) (N := 44) hx hb hq i_X12 tyX12 tyX12_ok nmX12 hown hK hP (fun k _ => Nat.le_add_right b k) hS hz 0 rfl rfl 26 (by decide) (hq _ w_1150) (fun _ h9 => h9) rfl hin rfl (by decide +kernel) rfl rfl (Nat.le_of_ble_eq_true rfl) dX12_init_102 (fun H locs hP hz hS => ?_)
  have hP : va_P D vwCl (gb_wl b [.inr (10, [.ref (b + 1), .ref (b + 2), .int 0, .int 0, .int 0, .int 0, .int 0, .int 0, .int 0, .int 0, .ref (b + 3), .int 0, .int 0, .ref (b + 4), .ref (b + 5), .ref (b + 6), .ref (b + 7), .ref (b + 8), .ref (b + 9), .ref (b + 10), .ref (b + 11), .ref (b + 12), .int 0, .int 0, .int 0, .int 0, .ref (b + 13), .null, .int 0, .int 0, .null, .null, .null, .long 0, .int 0, .int 0, .int 0, .null, .int 0, .null, .null, .int 0, .int 0, .null]), .inl (cT 0, 3968, .inl (fun _ => 0)), .inl (cT 2, 3, .inl (fun _ => 0)), .inl (cT 0, 97, .inl (fun _ => 0)), .inl (cT 0, 8, .inl (fun _ => 0)), .inl (cT 0, 8, .inl (fun _ => 0)), .inl (cT 0, 8, .inl (fun _ => 0)), .inl (cT 0, 8, .inl (fun _ => 0)), .inl (cT 2, 8, .inl (fun _ => 0)), .inl (cT 0, 40, .inl (fun _ => 0)), .inl (cT 0, 5, .inl (fun _ => 0)), .inl (cT 0, 5, .inl (fun _ => 0)), .inl (cT 0, 5, .inl (fun _ => 0)), .inl (cT 0, 40, .inl (fun _ => 0))]) H := hP
  refine lv_aload_n hx hb dX12_init_105 rfl (lv_at hl 0 rfl) ?_
  refine lv_iconst (v := 5) hx hb dX12_init_106 (by decide) ?_
  refine gb_newa (atype := .int) (a0 := (5, .inl (fun _ => 0))) hx hb (hq _ w_59) (ty := .int) rfl hK hP hS 14 hz rfl 0 rfl (fun h => h) (fun _ => rfl) (by decide) (by decide) (Nat.le_of_ble_eq_true rfl) (Nat.le_of_ble_eq_true rfl) (Nat.le_of_ble_eq_true rfl) dX12_init_107 (fun H hP hz hS => ?_)
  have hP : va_P D vwCl (gb_wl b [.inr (10, [.ref (b + 1), .ref (b + 2), .int 0, .int 0, .int 0, .int 0, .int 0, .int 0, .int 0, .int 0, .ref (b + 3), .int 0, .int 0, .ref (b + 4), .ref (b + 5), .ref (b + 6), .ref (b + 7), .ref (b + 8), .ref (b + 9), .ref (b + 10), .ref (b + 11), .ref (b + 12), .int 0, .int 0, .int 0, .int 0, .ref (b + 13), .null, .int 0, .int 0, .null, .null, .null, .long 0, .int 0, .int 0, .int 0, .null, .int 0, .null, .null, .int 0, .int 0, .null]), .inl (cT 0, 3968, .inl (fun _ => 0)), .inl (cT 2, 3, .inl (fun _ => 0)), .inl (cT 0, 97, .inl (fun _ => 0)), .inl (cT 0, 8, .inl (fun _ => 0)), .inl (cT 0, 8, .inl (fun _ => 0)), .inl (cT 0, 8, .inl (fun _ => 0)), .inl (cT 0, 8, .inl (fun _ => 0)), .inl (cT 2, 8, .inl (fun _ => 0)), .inl (cT 0, 40, .inl (fun _ => 0)), .inl (cT 0, 5, .inl (fun _ => 0)), .inl (cT 0, 5, .inl (fun _ => 0)), .inl (cT 0, 5, .inl (fun _ => 0)), .inl (cT 0, 40, .inl (fun _ => 0)), .inl (cT 0, 5, .inl (fun _ => 0))]) H := hP
  refine W.widen (k := 14) (n := 4208) (Nat.le_of_ble_eq_true rfl) (Nat.le_of_ble_eq_true rfl) ?_
  refine gb_putF (ci := 10) (v := (.ref (b + 14))) (ty := .array .int) (C := RX12) (T := TX12) (N := 44) hx hb hq i_X12 tyX12 tyX12_ok nmX12 hown hK hP (fun k _ => Nat.le_add_right b k) hS hz 0 rfl rfl 27 (by decide) (hq _ w_1151) (fun _ h9 => h9) rfl hin rfl (by decide +kernel) rfl rfl (Nat.le_of_ble_eq_true rfl) dX12_init_109 (fun H locs hP hz hS => ?_)
  have hP : va_P D vwCl (gb_wl b [.inr (10, [.ref (b + 1), .ref (b + 2), .int 0, .int 0, .int 0, .int 0, .int 0, .int 0, .int 0, .int 0, .ref (b + 3), .int 0, .int 0, .ref (b + 4), .ref (b + 5), .ref (b + 6), .ref (b + 7), .ref (b + 8), .ref (b + 9), .ref (b + 10), .ref (b + 11), .ref (b + 12), .int 0, .int 0, .int 0, .int 0, .ref (b + 13), .ref (b + 14), .int 0, .int 0, .null, .null, .null, .long 0, .int 0, .int 0, .int 0, .null, .int 0, .null, .null, .int 0, .int 0, .null]), .inl (cT 0, 3968, .inl (fun _ => 0)), .inl (cT 2, 3, .inl (fun _ => 0)), .inl (cT 0, 97, .inl (fun _ => 0)), .inl (cT 0, 8, .inl (fun _ => 0)), .inl (cT 0, 8, .inl (fun _ => 0)), .inl (cT 0, 8, .inl (fun _ => 0)), .inl (cT 0, 8, .inl (fun _ => 0)), .inl (cT 2, 8, .inl (fun _ => 0)), .inl (cT 0, 40, .inl (fun _ => 0)), .inl (cT 0, 5, .inl (fun _ => 0)), .inl (cT 0, 5, .inl (fun _ => 0)), .inl (cT 0, 5, .inl (fun _ => 0)), .inl (cT 0, 40, .inl (fun _ => 0)), .inl (cT 0, 5, .inl (fun _ => 0))]) H := hP
  refine lv_aload_n hx hb dX12_init_112 rfl (lv_at hl 0 rfl) ?_
  refine lv_iconst (v := 5) hx hb dX12_init_113 (by decide) ?_
  refine gb_newa (atype := .int) (a0 := (5, .inl (fun _ => 0))) hx hb (hq _ w_59) (ty := .int) rfl hK hP hS 15 hz rfl 0 rfl (fun h => h) (fun _ => rfl) (by decide) (by decide) (Nat.le_of_ble_eq_true rfl) (Nat.le_of_ble_eq_true rfl) (Nat.le_of_ble_eq_true rfl) dX12_init_114 (fun H hP hz hS => ?_)
  have hP : va_P D vwCl (gb_wl b [.inr (10, [.ref (b + 1), .ref (b + 2), .int 0, .int 0, .int 0, .int 0, .int 0, .int 0, .int 0, .int 0, .ref (b + 3), .int 0, .int 0, .ref (b + 4), .ref (b + 5), .ref (b + 6), .ref (b + 7), .ref (b + 8), .ref (b + 9), .ref (b + 10), .ref (b + 11), .ref (b + 12), .int 0, .int 0, .int 0, .int 0, .ref (b + 13), .ref (b + 14), .int 0, .int 0, .null, .null, .null, .long 0, .int 0, .int 0, .int 0, .null, .int 0, .null, .null, .int 0, .int 0, .null]), .inl (cT 0, 3968, .inl (fun _ => 0)), .inl (cT 2, 3, .inl (fun _ => 0)), .inl (cT 0, 97, .inl (fun _ => 0)), .inl (cT 0, 8, .inl (fun _ => 0)), .inl (cT 0, 8, .inl (fun _ => 0)), .inl (cT 0, 8, .inl (fun _ => 0)), .inl (cT 0, 8, .inl (fun _ => 0)), .inl (cT 2, 8, .inl (fun _ => 0)), .inl (cT 0, 40, .inl (fun _ => 0)), .inl (cT 0, 5, .inl (fun _ => 0)), .inl (cT 0, 5, .inl (fun _ => 0)), .inl (cT 0, 5, .inl (fun _ => 0)), .inl (cT 0, 40, .inl (fun _ => 0)), .inl (cT 0, 5, .inl (fun _ => 0)), .inl (cT 0, 5, .inl (fun _ => 0))]) H := hP
  refine W.widen (k := 15) (n := 4213) (Nat.le_of_ble_eq_true rfl) (Nat.le_of_ble_eq_true rfl) ?_
  refine gb_putF (ci := 10) (v := (.ref (b + 15))) (ty := .array .int) (C := RX12) (T := TX12) (N := 44) hx hb hq i_X12 tyX12 tyX12_ok nmX12 hown hK hP (fun k _ => Nat.le_add_right b k) hS hz 0 rfl rfl 30 (by decide) (hq _ w_1154) (fun _ h9 => h9) rfl hin rfl (by decide +kernel) rfl rfl (Nat.le_of_ble_eq_true rfl) dX12_init_116 (fun H locs hP hz hS => ?_)
  have hP : va_P D vwCl (gb_wl b [.inr (10, [.ref (b + 1), .ref (b + 2), .int 0, .int 0, .int 0, .int 0, .int 0, .int 0, .int 0, .int 0, .ref (b + 3), .int 0, .int 0, .ref (b + 4), .ref (b + 5), .ref (b + 6), .ref (b + 7), .ref (b + 8), .ref (b + 9), .ref (b + 10), .ref (b + 11), .ref (b + 12), .int 0, .int 0, .int 0, .int 0, .ref (b + 13), .ref (b + 14), .int 0, .int 0, .ref (b + 15), .null, .null, .long 0, .int 0, .int 0, .int 0, .null, .int 0, .null, .null, .int 0, .int 0, .null]), .inl (cT 0, 3968, .inl (fun _ => 0)), .inl (cT 2, 3, .inl (fun _ => 0)), .inl (cT 0, 97, .inl (fun _ => 0)), .inl (cT 0, 8, .inl (fun _ => 0)), .inl (cT 0, 8, .inl (fun _ => 0)), .inl (cT 0, 8, .inl (fun _ => 0)), .inl (cT 0, 8, .inl (fun _ => 0)), .inl (cT 2, 8, .inl (fun _ => 0)), .inl (cT 0, 40, .inl (fun _ => 0)), .inl (cT 0, 5, .inl (fun _ => 0)), .inl (cT 0, 5, .inl (fun _ => 0)), .inl (cT 0, 5, .inl (fun _ => 0)), .inl (cT 0, 40, .inl (fun _ => 0)), .inl (cT 0, 5, .inl (fun _ => 0)), .inl (cT 0, 5, .inl (fun _ => 0))]) H := hP
  refine lv_aload_n hx hb dX12_init_119 rfl (lv_at hl 0 rfl) ?_
  refine lv_bipush (v := 8) hx hb dX12_init_120 (by decide) ?_
  refine gb_newa (atype := .int) (a0 := (8, .inl (fun _ => 0))) hx hb (hq _ w_59) (ty := .int) rfl hK hP hS 16 hz rfl 0 rfl (fun h => h) (fun _ => rfl) (by decide) (by decide) (Nat.le_of_ble_eq_true rfl) (Nat.le_of_ble_eq_true rfl) (Nat.le_of_ble_eq_true rfl) dX12_init_122 (fun H hP hz hS => ?_)
  have hP : va_P D vwCl (gb_wl b [.inr (10, [.ref (b + 1), .ref (b + 2), .int 0, .int 0, .int 0, .int 0, .int 0, .int 0, .int 0, .int 0, .ref (b + 3), .int 0, .int 0, .ref (b + 4), .ref (b + 5), .ref (b + 6), .ref (b + 7), .ref (b + 8), .ref (b + 9), .ref (b + 10), .ref (b + 11), .ref (b + 12), .int 0, .int 0, .int 0, .int 0, .ref (b + 13), .ref (b + 14), .int 0, .int 0, .ref (b + 15), .null, .null, .long 0, .int 0, .int 0, .int 0, .null, .int 0, .null, .null, .int 0, .int 0, .null]), .inl (cT 0, 3968, .inl (fun _ => 0)), .inl (cT 2, 3, .inl (fun _ => 0)), .inl (cT 0, 97, .inl (fun _ => 0)), .inl (cT 0, 8, .inl (fun _ => 0)), .inl (cT 0, 8, .inl (fun _ => 0)), .inl (cT 0, 8, .inl (fun _ => 0)), .inl (cT 0, 8, .inl (fun _ => 0)), .inl (cT 2, 8, .inl (fun _ => 0)), .inl (cT 0, 40, .inl (fun _ => 0)), .inl (cT 0, 5, .inl (fun _ => 0)), .inl (cT 0, 5, .inl (fun _ => 0)), .inl (cT 0, 5, .inl (fun _ => 0)), .inl (cT 0, 40, .inl (fun _ => 0)), .inl (cT 0, 5, .inl (fun _ => 0)), .inl (cT 0, 5, .inl (fun _ => 0)), .inl (cT 0, 8, .inl (fun _ => 0))]) H := hP
  refine W.widen (k := 16) (n := 4221) (Nat.le_of_ble_eq_true rfl) (Nat.le_of_ble_eq_true rfl) ?_
  refine gb_putF (ci := 10) (v := (.ref (b + 16))) (ty := .array .int) (C := RX12) (T := TX12) (N := 44) hx hb hq i_X12 tyX12 tyX12_ok nmX12 hown hK hP (fun k _ => Nat.le_add_right b k) hS hz 0 rfl rfl 31 (by decide) (hq _ w_1155) (fun _ h9 => h9) rfl hin rfl (by decide +kernel) rfl rfl (Nat.le_of_ble_eq_true rfl) dX12_init_124 (fun H locs hP hz hS => ?_)
  have hP : va_P D vwCl (gb_wl b [.inr (10, [.ref (b + 1), .ref (b + 2), .int 0, .int 0, .int 0, .int 0, .int 0, .int 0, .int 0, .int 0, .ref (b + 3), .int 0, .int 0, .ref (b + 4), .ref (b + 5), .ref (b + 6), .ref (b + 7), .ref (b + 8), .ref (b + 9), .ref (b + 10), .ref (b + 11), .ref (b + 12), .int 0, .int 0, .int 0, .int 0, .ref (b + 13), .ref (b + 14), .int 0, .int 0, .ref (b + 15), .ref (b + 16), .null, .long 0, .int 0, .int 0, .int 0, .null, .int 0, .null, .null, .int 0, .int 0, .null]), .inl (cT 0, 3968, .inl (fun _ => 0)), .inl (cT 2, 3, .inl (fun _ => 0)), .inl (cT 0, 97, .inl (fun _ => 0)), .inl (cT 0, 8, .inl (fun _ => 0)), .inl (cT 0, 8, .inl (fun _ => 0)), .inl (cT 0, 8, .inl (fun _ => 0)), .inl (cT 0, 8, .inl (fun _ => 0)), .inl (cT 2, 8, .inl (fun _ => 0)), .inl (cT 0, 40, .inl (fun _ => 0)), .inl (cT 0, 5, .inl (fun _ => 0)), .inl (cT 0, 5, .inl (fun _ => 0)), .inl (cT 0, 5, .inl (fun _ => 0)), .inl (cT 0, 40, .inl (fun _ => 0)), .inl (cT 0, 5, .inl (fun _ => 0)), .inl (cT 0, 5, .inl (fun _ => 0)), .inl (cT 0, 8, .inl (fun _ => 0))]) H := hP
  refine lv_aload_n hx hb dX12_init_127 rfl (lv_at hl 0 rfl) ?_
  refine lv_bipush (v := 8) hx hb dX12_init_128 (by decide) ?_
  refine gb_newa (atype := .boolean) (a0 := (8, .inl (fun _ => 0))) hx hb (hq _ w_188) (ty := .boolean) rfl hK hP hS 17 hz rfl 2 rfl (fun h => h) (fun _ => rfl) (by decide) (by decide) (Nat.le_of_ble_eq_true rfl) (Nat.le_of_ble_eq_true rfl) (Nat.le_of_ble_eq_true rfl) dX12_init_130 (fun H hP hz hS => ?_)
  have hP : va_P D vwCl (gb_wl b [.inr (10, [.ref (b + 1), .ref (b + 2), .int 0, .int 0, .int 0, .int 0, .int 0, .int 0, .int 0, .int 0, .ref (b + 3), .int 0, .int 0, .ref (b + 4), .ref (b + 5), .ref (b + 6), .ref (b + 7), .ref (b + 8), .ref (b + 9), .ref (b + 10), .ref (b + 11), .ref (b + 12), .int 0, .int 0, .int 0, .int 0, .ref (b + 13), .ref (b + 14), .int 0, .int 0, .ref (b + 15), .ref (b + 16), .null, .long 0, .int 0, .int 0, .int 0, .null, .int 0, .null, .null, .int 0, .int 0, .null]), .inl (cT 0, 3968, .inl (fun _ => 0)), .inl (cT 2, 3, .inl (fun _ => 0)), .inl (cT 0, 97, .inl (fun _ => 0)), .inl (cT 0, 8, .inl (fun _ => 0)), .inl (cT 0, 8, .inl (fun _ => 0)), .inl (cT 0, 8, .inl (fun _ => 0)), .inl (cT 0, 8, .inl (fun _ => 0)), .inl (cT 2, 8, .inl (fun _ => 0)), .inl (cT 0, 40, .inl (fun _ => 0)), .inl (cT 0, 5, .inl (fun _ => 0)), .inl (cT 0, 5, .inl (fun _ => 0)), .inl (cT 0, 5, .inl (fun _ => 0)), .inl (cT 0, 40, .inl (fun _ => 0)), .inl (cT 0, 5, .inl (fun _ => 0)), .inl (cT 0, 5, .inl (fun _ => 0)), .inl (cT 0, 8, .inl (fun _ => 0)), .inl (cT 2, 8, .inl (fun _ => 0))]) H := hP
  refine W.widen (k := 17) (n := 4229) (Nat.le_of_ble_eq_true rfl) (Nat.le_of_ble_eq_true rfl) ?_
  refine gb_putF (ci := 10) (v := (.ref (b + 17))) (ty := .array .boolean) (C := RX12) (T := TX12) (N := 44) hx hb hq i_X12 tyX12 tyX12_ok nmX12 hown hK hP (fun k _ => Nat.le_add_right b k) hS hz 0 rfl rfl 32 (by decide) (hq _ w_1156) (fun _ h9 => h9) rfl hin rfl (by decide +kernel) rfl rfl (Nat.le_of_ble_eq_true rfl) dX12_init_132 (fun H locs hP hz hS => ?_)
  have hP : va_P D vwCl (gb_wl b [.inr (10, [.ref (b + 1), .ref (b + 2), .int 0, .int 0, .int 0, .int 0, .int 0, .int 0, .int 0, .int 0, .ref (b + 3), .int 0, .int 0, .ref (b + 4), .ref (b + 5), .ref (b + 6), .ref (b + 7), .ref (b + 8), .ref (b + 9), .ref (b + 10), .ref (b + 11), .ref (b + 12), .int 0, .int 0, .int 0, .int 0, .ref (b + 13), .ref (b + 14), .int 0, .int 0, .ref (b + 15), .ref (b + 16), .ref (b + 17), .long 0, .int 0, .int 0, .int 0, .null, .int 0, .null, .null, .int 0, .int 0, .null]), .inl (cT 0, 3968, .inl (fun _ => 0)), .inl (cT 2, 3, .inl (fun _ => 0)), .inl (cT 0, 97, .inl (fun _ => 0)), .inl (cT 0, 8, .inl (fun _ => 0)), .inl (cT 0, 8, .inl (fun _ => 0)), .inl (cT 0, 8, .inl (fun _ => 0)), .inl (cT 0, 8, .inl (fun _ => 0)), .inl (cT 2, 8, .inl (fun _ => 0)), .inl (cT 0, 40, .inl (fun _ => 0)), .inl (cT 0, 5, .inl (fun _ => 0)), .inl (cT 0, 5, .inl (fun _ => 0)), .inl (cT 0, 5, .inl (fun _ => 0)), .inl (cT 0, 40, .inl (fun _ => 0)), .inl (cT 0, 5, .inl (fun _ => 0)), .inl (cT 0, 5, .inl (fun _ => 0)), .inl (cT 0, 8, .inl (fun _ => 0)), .inl (cT 2, 8, .inl (fun _ => 0))]) H := hP
  refine lv_aload_n hx hb dX12_init_135 rfl (lv_at hl 0 rfl) ?_
  refine lv_bipush (v := 8) hx hb dX12_init_136 (by decide) ?_
  refine gb_newa (atype := .int) (a0 := (8, .inl (fun _ => 0))) hx hb (hq _ w_59) (ty := .int) rfl hK hP hS 18 hz rfl 0 rfl (fun h => h) (fun _ => rfl) (by decide) (by decide) (Nat.le_of_ble_eq_true rfl) (Nat.le_of_ble_eq_true rfl) (Nat.le_of_ble_eq_true rfl) dX12_init_138 (fun H hP hz hS => ?_)
  have hP : va_P D vwCl (gb_wl b [.inr (10, [.ref (b + 1), .ref (b + 2), .int 0, .int 0, .int 0, .int 0, .int 0, .int 0, .int 0, .int 0, .ref (b + 3), .int 0, .int 0, .ref (b + 4), .ref (b + 5), .ref (b + 6), .ref (b + 7), .ref (b + 8), .ref (b + 9), .ref (b + 10), .ref (b + 11), .ref (b + 12), .int 0, .int 0, .int 0, .int 0, .ref (b + 13), .ref (b + 14), .int 0, .int 0, .ref (b + 15), .ref (b + 16), .ref (b + 17), .long 0, .int 0, .int 0, .int 0, .null, .int 0, .null, .null, .int 0, .int 0, .null]), .inl (cT 0, 3968, .inl (fun _ => 0)), .inl (cT 2, 3, .inl (fun _ => 0)), .inl (cT 0, 97, .inl (fun _ => 0)), .inl (cT 0, 8, .inl (fun _ => 0)), .inl (cT 0, 8, .inl (fun _ => 0)), .inl (cT 0, 8, .inl (fun _ => 0)), .inl (cT 0, 8, .inl (fun _ => 0)), .inl (cT 2, 8, .inl (fun _ => 0)), .inl (cT 0, 40, .inl (fun _ => 0)), .inl (cT 0, 5, .inl (fun _ => 0)), .inl (cT 0, 5, .inl (fun _ => 0)), .inl (cT 0, 5, .inl (fun _ => 0)), .inl (cT 0, 40, .inl (fun _ => 0)), .inl (cT 0, 5, .inl (fun _ => 0)), .inl (cT 0, 5, .inl (fun _ => 0)), .inl (cT 0, 8, .inl (fun _ => 0)), .inl (cT 2, 8, .inl (fun _ => 0)), .inl (cT 0, 8, .inl (fun _ => 0))]) H := hP
  refine W.widen (k := 18) (n := 4237) (Nat.le_of_ble_eq_true rfl) (Nat.le_of_ble_eq_true rfl) ?_
  refine gb_putF (ci := 10) (v := (.ref (b + 18))) (ty := .array .int) (C := RX12) (T := TX12) (N := 44) hx hb hq i_X12 tyX12 tyX12_ok nmX12 hown hK hP (fun k _ => Nat.le_add_right b k) hS hz 0 rfl rfl 37 (by decide) (hq _ w_1161) (fun _ h9 => h9) rfl hin rfl (by decide +kernel) rfl rfl (Nat.le_of_ble_eq_true rfl) dX12_init_140 (fun H locs hP hz hS => ?_)
  have hP : va_P D vwCl (gb_wl b [.inr (10, [.ref (b + 1), .ref (b + 2), .int 0, .int 0, .int 0, .int 0, .int 0, .int 0, .int 0, .int 0, .ref (b + 3), .int 0, .int 0, .ref (b + 4), .ref (b + 5), .ref (b + 6), .ref (b + 7), .ref (b + 8), .ref (b + 9), .ref (b + 10), .ref (b + 11), .ref (b + 12), .int 0, .int 0, .int 0, .int 0, .ref (b + 13), .ref (b + 14), .int 0, .int 0, .ref (b + 15), .ref (b + 16), .ref (b + 17), .long 0, .int 0, .int 0, .int 0, .ref (b + 18), .int 0, .null, .null, .int 0, .int 0, .null]), .inl (cT 0, 3968, .inl (fun _ => 0)), .inl (cT 2, 3, .inl (fun _ => 0)), .inl (cT 0, 97, .inl (fun _ => 0)), .inl (cT 0, 8, .inl (fun _ => 0)), .inl (cT 0, 8, .inl (fun _ => 0)), .inl (cT 0, 8, .inl (fun _ => 0)), .inl (cT 0, 8, .inl (fun _ => 0)), .inl (cT 2, 8, .inl (fun _ => 0)), .inl (cT 0, 40, .inl (fun _ => 0)), .inl (cT 0, 5, .inl (fun _ => 0)), .inl (cT 0, 5, .inl (fun _ => 0)), .inl (cT 0, 5, .inl (fun _ => 0)), .inl (cT 0, 40, .inl (fun _ => 0)), .inl (cT 0, 5, .inl (fun _ => 0)), .inl (cT 0, 5, .inl (fun _ => 0)), .inl (cT 0, 8, .inl (fun _ => 0)), .inl (cT 2, 8, .inl (fun _ => 0)), .inl (cT 0, 8, .inl (fun _ => 0))]) H := hP
  refine lv_aload_n hx hb dX12_init_143 rfl (lv_at hl 0 rfl) ?_
  refine lv_iconst (v := 5) hx hb dX12_init_144 (by decide) ?_
  refine gb_newa (atype := .int) (a0 := (5, .inl (fun _ => 0))) hx hb (hq _ w_59) (ty := .int) rfl hK hP hS 19 hz rfl 0 rfl (fun h => h) (fun _ => rfl) (by decide) (by decide) (Nat.le_of_ble_eq_true rfl) (Nat.le_of_ble_eq_true rfl) (Nat.le_of_ble_eq_true rfl) dX12_init_145 (fun H hP hz hS => ?_)
  have hP : va_P D vwCl (gb_wl b [.inr (10, [.ref (b + 1), .ref (b + 2), .int 0, .int 0, .int 0, .int 0, .int 0, .int 0, .int 0, .int 0, .ref (b + 3), .int 0, .int 0, .ref (b + 4), .ref (b + 5), .ref (b + 6), .ref (b + 7), .ref (b + 8), .ref (b + 9), .ref (b + 10), .ref (b + 11), .ref (b + 12), .int 0, .int 0, .int 0, .int 0, .ref (b + 13), .ref (b + 14), .int 0, .int 0, .ref (b + 15), .ref (b + 16), .ref (b + 17), .long 0, .int 0, .int 0, .int 0, .ref (b + 18), .int 0, .null, .null, .int 0, .int 0, .null]), .inl (cT 0, 3968, .inl (fun _ => 0)), .inl (cT 2, 3, .inl (fun _ => 0)), .inl (cT 0, 97, .inl (fun _ => 0)), .inl (cT 0, 8, .inl (fun _ => 0)), .inl (cT 0, 8, .inl (fun _ => 0)), .inl (cT 0, 8, .inl (fun _ => 0)), .inl (cT 0, 8, .inl (fun _ => 0)), .inl (cT 2, 8, .inl (fun _ => 0)), .inl (cT 0, 40, .inl (fun _ => 0)), .inl (cT 0, 5, .inl (fun _ => 0)), .inl (cT 0, 5, .inl (fun _ => 0)), .inl (cT 0, 5, .inl (fun _ => 0)), .inl (cT 0, 40, .inl (fun _ => 0)), .inl (cT 0, 5, .inl (fun _ => 0)), .inl (cT 0, 5, .inl (fun _ => 0)), .inl (cT 0, 8, .inl (fun _ => 0)), .inl (cT 2, 8, .inl (fun _ => 0)), .inl (cT 0, 8, .inl (fun _ => 0)), .inl (cT 0, 5, .inl (fun _ => 0))]) H := hP
  refine W.widen (k := 19) (n := 4242) (Nat.le_of_ble_eq_true rfl) (Nat.le_of_ble_eq_true rfl) ?_
  refine gb_putF (ci := 10) (v := (.ref (b + 19))) (ty := .array .int) (C := RX12) (T := TX12) (N := 44) hx hb hq i_X12 tyX12 tyX12_ok nmX12 hown hK hP (fun k _ => Nat.le_add_right b k) hS hz 0 rfl rfl 39 (by decide) (hq _ w_1163) (fun _ h9 => h9) rfl hin rfl (by decide +kernel) rfl rfl (Nat.le_of_ble_eq_true rfl) dX12_init_147 (fun H locs hP hz hS => ?_)
  have hP : va_P D vwCl (gb_wl b [.inr (10, [.ref (b + 1), .ref (b + 2), .int 0, .int 0, .int 0, .int 0, .int 0, .int 0, .int 0, .int 0, .ref (b + 3), .int 0, .int 0, .ref (b + 4), .ref (b + 5), .ref (b + 6), .ref (b + 7), .ref (b + 8), .ref (b + 9), .ref (b + 10), .ref (b + 11), .ref (b + 12), .int 0, .int 0, .int 0, .int 0, .ref (b + 13), .ref (b + 14), .int 0, .int 0, .ref (b + 15), .ref (b + 16), .ref (b + 17), .long 0, .int 0, .int 0, .int 0, .ref (b + 18), .int 0, .ref (b + 19), .null, .int 0, .int 0, .null]), .inl (cT 0, 3968, .inl (fun _ => 0)), .inl (cT 2, 3, .inl (fun _ => 0)), .inl (cT 0, 97, .inl (fun _ => 0)), .inl (cT 0, 8, .inl (fun _ => 0)), .inl (cT 0, 8, .inl (fun _ => 0)), .inl (cT 0, 8, .inl (fun _ => 0)), .inl (cT 0, 8, .inl (fun _ => 0)), .inl (cT 2, 8, .inl (fun _ => 0)), .inl (cT 0, 40, .inl (fun _ => 0)), .inl (cT 0, 5, .inl (fun _ => 0)), .inl (cT 0, 5, .inl (fun _ => 0)), .inl (cT 0, 5, .inl (fun _ => 0)), .inl (cT 0, 40, .inl (fun _ => 0)), .inl (cT 0, 5, .inl (fun _ => 0)), .inl (cT 0, 5, .inl (fun _ => 0)), .inl (cT 0, 8, .inl (fun _ => 0)), .inl (cT 2, 8, .inl (fun _ => 0)), .inl (cT 0, 8, .inl (fun _ => 0)), .inl (cT 0, 5, .inl (fun _ => 0))]) H := hP
  refine lv_aload_n hx hb dX12_init_150 rfl (lv_at hl 0 rfl) ?_
  refine lv_bipush (v := 8) hx hb dX12_init_151 (by decide) ?_
  refine gb_newa (atype := .int) (a0 := (8, .inl (fun _ => 0))) hx hb (hq _ w_59) (ty := .int) rfl hK hP hS 20 hz rfl 0 rfl (fun h => h) (fun _ => rfl) (by decide) (by decide) (Nat.le_of_ble_eq_true rfl) (Nat.le_of_ble_eq_true rfl) (Nat.le_of_ble_eq_true rfl) dX12_init_153 (fun H hP hz hS => ?_)
  have hP : va_P D vwCl (gb_wl b [.inr (10, [.ref (b + 1), .ref (b + 2), .int 0, .int 0, .int 0, .int 0, .int 0, .int 0, .int 0, .int 0, .ref (b + 3), .int 0, .int 0, .ref (b + 4), .ref (b + 5), .ref (b + 6), .ref (b + 7), .ref (b + 8), .ref (b + 9), .ref (b + 10), .ref (b + 11), .ref (b + 12), .int 0, .int 0, .int 0, .int 0, .ref (b + 13), .ref (b + 14), .int 0, .int 0, .ref (b + 15), .ref (b + 16), .ref (b + 17), .long 0, .int 0, .int 0, .int 0, .ref (b + 18), .int 0, .ref (b + 19), .null, .int 0, .int 0, .null]), .inl (cT 0, 3968, .inl (fun _ => 0)), .inl (cT 2, 3, .inl (fun _ => 0)), .inl (cT 0, 97, .inl (fun _ => 0)), .inl (cT 0, 8, .inl (fun _ => 0)), .inl (cT 0, 8, .inl (fun _ => 0)), .inl (cT 0, 8, .inl (fun _ => 0)), .inl (cT 0, 8, .inl (fun _ => 0)), .inl (cT 2, 8, .inl (fun _ => 0)), .inl (cT 0, 40, .inl (fun _ => 0)), .inl (cT 0, 5, .inl (fun _ => 0)), .inl (cT 0, 5, .inl (fun _ => 0)), .inl (cT 0, 5, .inl (fun _ => 0)), .inl (cT 0, 40, .inl (fun _ => 0)), .inl (cT 0, 5, .inl (fun _ => 0)), .inl (cT 0, 5, .inl (fun _ => 0)), .inl (cT 0, 8, .inl (fun _ => 0)), .inl (cT 2, 8, .inl (fun _ => 0)), .inl (cT 0, 8, .inl (fun _ => 0)), .inl (cT 0, 5, .inl (fun _ => 0)), .inl (cT 0, 8, .inl (fun _ => 0))]) H := hP
  refine W.widen (k := 20) (n := 4250) (Nat.le_of_ble_eq_true rfl) (Nat.le_of_ble_eq_true rfl) ?_
  refine gb_putF (ci := 10) (v := (.ref (b + 20))) (ty := .array .int) (C := RX12) (T := TX12) (N := 44) hx hb hq i_X12 tyX12 tyX12_ok nmX12 hown hK hP (fun k _ => Nat.le_add_right b k) hS hz 0 rfl rfl 40 (by decide) (hq _ w_1164) (fun _ h9 => h9) rfl hin rfl (by decide +kernel) rfl rfl (Nat.le_of_ble_eq_true rfl) dX12_init_155 (fun H locs hP hz hS => ?_)
  have hP : va_P D vwCl (gb_wl b [.inr (10, [.ref (b + 1), .ref (b + 2), .int 0, .int 0, .int 0, .int 0, .int 0, .int 0, .int 0, .int 0, .ref (b + 3), .int 0, .int 0, .ref (b + 4), .ref (b + 5), .ref (b + 6), .ref (b + 7), .ref (b + 8), .ref (b + 9), .ref (b + 10), .ref (b + 11), .ref (b + 12), .int 0, .int 0, .int 0, .int 0, .ref (b + 13), .ref (b + 14), .int 0, .int 0, .ref (b + 15), .ref (b + 16), .ref (b + 17), .long 0, .int 0, .int 0, .int 0, .ref (b + 18), .int 0, .ref (b + 19), .ref (b + 20), .int 0, .int 0, .null]), .inl (cT 0, 3968, .inl (fun _ => 0)), .inl (cT 2, 3, .inl (fun _ => 0)), .inl (cT 0, 97, .inl (fun _ => 0)), .inl (cT 0, 8, .inl (fun _ => 0)), .inl (cT 0, 8, .inl (fun _ => 0)), .inl (cT 0, 8, .inl (fun _ => 0)), .inl (cT 0, 8, .inl (fun _ => 0)), .inl (cT 2, 8, .inl (fun _ => 0)), .inl (cT 0, 40, .inl (fun _ => 0)), .inl (cT 0, 5, .inl (fun _ => 0)), .inl (cT 0, 5, .inl (fun _ => 0)), .inl (cT 0, 5, .inl (fun _ => 0)), .inl (cT 0, 40, .inl (fun _ => 0)), .inl (cT 0, 5, .inl (fun _ => 0)), .inl (cT 0, 5, .inl (fun _ => 0)), .inl (cT 0, 8, .inl (fun _ => 0)), .inl (cT 2, 8, .inl (fun _ => 0)), .inl (cT 0, 8, .inl (fun _ => 0)), .inl (cT 0, 5, .inl (fun _ => 0)), .inl (cT 0, 8, .inl (fun _ => 0))]) H := hP
  refine lv_aload_n hx hb dX12_init_158 rfl (lv_at hl 0 rfl) ?_
  refine lv_sipush (v := 256) hx hb dX12_init_159 (by decide) ?_
  refine gb_newa (atype := .boolean) (a0 := (256, .inl (fun _ => 0))) hx hb (hq _ w_188) (ty := .boolean) rfl hK hP hS 21 hz rfl 2 rfl (fun h => h) (fun _ => rfl) (by decide) (by decide) (Nat.le_of_ble_eq_true rfl) (Nat.le_of_ble_eq_true rfl) (Nat.le_of_ble_eq_true rfl) dX12_init_162 (fun H hP hz hS => ?_)
  have hP : va_P D vwCl (gb_wl b [.inr (10, [.ref (b + 1), .ref (b + 2), .int 0, .int 0, .int 0, .int 0, .int 0, .int 0, .int 0, .int 0, .ref (b + 3), .int 0, .int 0, .ref (b + 4), .ref (b + 5), .ref (b + 6), .ref (b + 7), .ref (b + 8), .ref (b + 9), .ref (b + 10), .ref (b + 11), .ref (b + 12), .int 0, .int 0, .int 0, .int 0, .ref (b + 13), .ref (b + 14), .int 0, .int 0, .ref (b + 15), .ref (b + 16), .ref (b + 17), .long 0, .int 0, .int 0, .int 0, .ref (b + 18), .int 0, .ref (b + 19), .ref (b + 20), .int 0, .int 0, .null]), .inl (cT 0, 3968, .inl (fun _ => 0)), .inl (cT 2, 3, .inl (fun _ => 0)), .inl (cT 0, 97, .inl (fun _ => 0)), .inl (cT 0, 8, .inl (fun _ => 0)), .inl (cT 0, 8, .inl (fun _ => 0)), .inl (cT 0, 8, .inl (fun _ => 0)), .inl (cT 0, 8, .inl (fun _ => 0)), .inl (cT 2, 8, .inl (fun _ => 0)), .inl (cT 0, 40, .inl (fun _ => 0)), .inl (cT 0, 5, .inl (fun _ => 0)), .inl (cT 0, 5, .inl (fun _ => 0)), .inl (cT 0, 5, .inl (fun _ => 0)), .inl (cT 0, 40, .inl (fun _ => 0)), .inl (cT 0, 5, .inl (fun _ => 0)), .inl (cT 0, 5, .inl (fun _ => 0)), .inl (cT 0, 8, .inl (fun _ => 0)), .inl (cT 2, 8, .inl (fun _ => 0)), .inl (cT 0, 8, .inl (fun _ => 0)), .inl (cT 0, 5, .inl (fun _ => 0)), .inl (cT 0, 8, .inl (fun _ => 0)), .inl (cT 2, 256, .inl (fun _ => 0))]) H := hP
  refine W.widen (k := 21) (n := 4506) (Nat.le_of_ble_eq_true rfl) (Nat.le_of_ble_eq_true rfl) ?_
  refine gb_putF (ci := 10) (v := (.ref (b + 21))) (ty := .array .boolean) (C := RX12) (T := TX12) (N := 44) hx hb hq i_X12 tyX12 tyX12_ok nmX12 hown hK hP (fun k _ => Nat.le_add_right b k) hS hz 0 rfl rfl 43 (by decide) (hq _ w_1167) (fun _ h9 => h9) rfl hin rfl (by decide +kernel) rfl rfl (Nat.le_of_ble_eq_true rfl) dX12_init_164 (fun H locs hP hz hS => ?_)
  have hP : va_P D vwCl (gb_wl b [.inr (10, [.ref (b + 1), .ref (b + 2), .int 0, .int 0, .int 0, .int 0, .int 0, .int 0, .int 0, .int 0, .ref (b + 3), .int 0, .int 0, .ref (b + 4), .ref (b + 5), .ref (b + 6), .ref (b + 7), .ref (b + 8), .ref (b + 9), .ref (b + 10), .ref (b + 11), .ref (b + 12), .int 0, .int 0, .int 0, .int 0, .ref (b + 13), .ref (b + 14), .int 0, .int 0, .ref (b + 15), .ref (b + 16), .ref (b + 17), .long 0, .int 0, .int 0, .int 0, .ref (b + 18), .int 0, .ref (b + 19), .ref (b + 20), .int 0, .int 0, .ref (b + 21)]), .inl (cT 0, 3968, .inl (fun _ => 0)), .inl (cT 2, 3, .inl (fun _ => 0)), .inl (cT 0, 97, .inl (fun _ => 0)), .inl (cT 0, 8, .inl (fun _ => 0)), .inl (cT 0, 8, .inl (fun _ => 0)), .inl (cT 0, 8, .inl (fun _ => 0)), .inl (cT 0, 8, .inl (fun _ => 0)), .inl (cT 2, 8, .inl (fun _ => 0)), .inl (cT 0, 40, .inl (fun _ => 0)), .inl (cT 0, 5, .inl (fun _ => 0)), .inl (cT 0, 5, .inl (fun _ => 0)), .inl (cT 0, 5, .inl (fun _ => 0)), .inl (cT 0, 40, .inl (fun _ => 0)), .inl (cT 0, 5, .inl (fun _ => 0)), .inl (cT 0, 5, .inl (fun _ => 0)), .inl (cT 0, 8, .inl (fun _ => 0)), .inl (cT 2, 8, .inl (fun _ => 0)), .inl (cT 0, 8, .inl (fun _ => 0)), .inl (cT 0, 5, .inl (fun _ => 0)), .inl (cT 0, 8, .inl (fun _ => 0)), .inl (cT 2, 256, .inl (fun _ => 0))]) H := hP
  refine lv_aload_n hx hb dX12_init_167 rfl (lv_at hl 0 rfl) ?_
  refine va_get (ci := 10) (v := (.ref (b + 1))) (C := RX12) (T := TX12) (N := 44) hx hb hq i_X12 hown hK hP 0 (gb_at b rfl) rfl 0 (by decide) (hq _ w_1124) (fun _ h9 => h9) rfl dX12_init_168 ?_
  refine lv_bipush (v := 6) hx hb dX12_init_171 (by decide) ?_
  refine lv_iconst (v := (-1)) hx hb dX12_init_173 (by decide) ?_
  refine gb_iast (x := (-1)) hx hb hK hP (fun k _ => Nat.le_add_right b k) hS hz 1 0 rfl rfl (gb_in rfl) dX12_init_174 (fun H locs hP hz hS => ?_)
  have hP : va_P D vwCl (gb_wl b [.inr (10, [.ref (b + 1), .ref (b + 2), .int 0, .int 0, .int 0, .int 0, .int 0, .int 0, .int 0, .int 0, .ref (b + 3), .int 0, .int 0, .ref (b + 4), .ref (b + 5), .ref (b + 6), .ref (b + 7), .ref (b + 8), .ref (b + 9), .ref (b + 10), .ref (b + 11), .ref (b + 12), .int 0, .int 0, .int 0, .int 0, .ref (b + 13), .ref (b + 14), .int 0, .int 0, .ref (b + 15), .ref (b + 16), .ref (b + 17), .long 0, .int 0, .int 0, .int 0, .ref (b + 18), .int 0, .ref (b + 19), .ref (b + 20), .int 0, .int 0, .ref (b + 21)]), .inl (cT 0, 3968, .inl (upd (fun _ => 0) 6 (-1))), .inl (cT 2, 3, .inl (fun _ => 0)), .inl (cT 0, 97, .inl (fun _ => 0)), .inl (cT 0, 8, .inl (fun _ => 0)), .inl (cT 0, 8, .inl (fun _ => 0)), .inl (cT 0, 8, .inl (fun _ => 0)), .inl (cT 0, 8, .inl (fun _ => 0)), .inl (cT 2, 8, .inl (fun _ => 0)), .inl (cT 0, 40, .inl (fun _ => 0)), .inl (cT 0, 5, .inl (fun _ => 0)), .inl (cT 0, 5, .inl (fun _ => 0)), .inl (cT 0, 5, .inl (fun _ => 0)), .inl (cT 0, 40, .inl (fun _ => 0)), .inl (cT 0, 5, .inl (fun _ => 0)), .inl (cT 0, 5, .inl (fun _ => 0)), .inl (cT 0, 8, .inl (fun _ => 0)), .inl (cT 2, 8, .inl (fun _ => 0)), .inl (cT 0, 8, .inl (fun _ => 0)), .inl (cT 0, 5, .inl (fun _ => 0)), .inl (cT 0, 8, .inl (fun _ => 0)), .inl (cT 2, 256, .inl (fun _ => 0))]) H := hP
  exact W.vret hx hb hr (fun t ht hW => gb_rv ht ⟨hP, hz⟩ hS) hS.2.2 dX12_init_175
end
section
abbrev gb_C (cT : Nat → ClassId) (b : Nat) : List va_E := [.inr (9, [.ref (b + 1), .ref (b + 24), .ref (b + 94), .ref (b + 95), .ref (b + 104), .ref (b + 106), .ref (b + 109), .ref (b + 120), .ref (b + 130), .int 0]), .inr (8, [.ref (b + 2), .ref (b + 7), .ref (b + 12), .ref (b + 17), .ref (b + 22), .ref (b + 23), .int 0, .int 0, .int (-1)]), .inl (cT 4, 2, .inr (.inr (.inr (.inr (va_up (va_up (fun _ => none) 0 (some (b + 3))) 1 (some (b + 5))))))), .inr (0, [.ref (b + 4)]), .inl (cT 0, 58, .inl (upd (fun _ => 0) 2 (-1))), .inr (0, [.ref (b + 6)]), .inl (cT 0, 58, .inl (upd (fun _ => 0) 2 (-1))), .inl (cT 5, 2, .inr (.inr (.inr (.inr (va_up (va_up (fun _ => none) 0 (some (b + 8))) 1 (some (b + 10))))))), .inr (4, [.int 24, .int 3, .int 3, .ref (b + 9)]), .inl (cT 0, 97, .inl (fun _ => 0)), .inr (4, [.int 24, .int 3, .int 3, .ref (b + 11)]), .inl (cT 0, 97, .inl (fun _ => 0)), .inl (cT 6, 2, .inr (.inr (.inr (.inr (va_up (va_up (fun _ => none) 0 (some (b + 13))) 1 (some (b + 15))))))), .inr (3, [.int 8, .int 2, .int 12, .ref (b + 14)]), .inl (cT 0, 25, .inl (fun _ => 0)), .inr (3, [.int 8, .int 2, .int 12, .ref (b + 16)]), .inl (cT 0, 25, .inl (fun _ => 0)), .inl (cT 7, 2, .inr (.inr (.inr (.inr (va_up (va_up (fun _ => none) 0 (some (b + 18))) 1 (some (b + 20))))))), .inr (1, [.int 5, .int 2, .int 17, .ref (b + 19)]), .inl (cT 0, 16, .inl (fun _ => 0)), .inr (1, [.int 5, .int 2, .int 17, .ref (b + 21)]), .inl (cT 0, 16, .inl (fun _ => 0)), .inl (cT 0, 4, .inl (fun _ => 0)), .inl (cT 1, 600, .inl (fun _ => 0)), .inl (cT 8, 3, .inr (.inr (.inr (.inr (va_up (va_up (va_up (fun _ => none) 0 (some (b + 25))) 1 (some (b + 48))) 2 (some (b + 71))))))), .inr (8, [.ref (b + 26), .ref (b + 31), .ref (b + 36), .ref (b + 41), .ref (b + 46), .ref (b + 47), .int 0, .int 0, .int (-1)]), .inl (cT 4, 2, .inr (.inr (.inr (.inr (va_up (va_up (fun _ => none) 0 (some (b + 27))) 1 (some (b + 29))))))), .inr (0, [.ref (b + 28)]), .inl (cT 0, 58, .inl (upd (fun _ => 0) 2 (-1))), .inr (0, [.ref (b + 30)]), .inl (cT 0, 58, .inl (upd (fun _ => 0) 2 (-1))), .inl (cT 5, 2, .inr (.inr (.inr (.inr (va_up (va_up (fun _ => none) 0 (some (b + 32))) 1 (some (b + 34))))))), .inr (4, [.int 24, .int 3, .int 3, .ref (b + 33)]), .inl (cT 0, 97, .inl (fun _ => 0)), .inr (4, [.int 24, .int 3, .int 3, .ref (b + 35)]), .inl (cT 0, 97, .inl (fun _ => 0)), .inl (cT 6, 2, .inr (.inr (.inr (.inr (va_up (va_up (fun _ => none) 0 (some (b + 37))) 1 (some (b + 39))))))), .inr (3, [.int 8, .int 2, .int 12, .ref (b + 38)]), .inl (cT 0, 25, .inl (fun _ => 0)), .inr (3, [.int 8, .int 2, .int 12, .ref (b + 40)]), .inl (cT 0, 25, .inl (fun _ => 0)), .inl (cT 7, 2, .inr (.inr (.inr (.inr (va_up (va_up (fun _ => none) 0 (some (b + 42))) 1 (some (b + 44))))))), .inr (1, [.int 5, .int 2, .int 17, .ref (b + 43)]), .inl (cT 0, 16, .inl (fun _ => 0)), .inr (1, [.int 5, .int 2, .int 17, .ref (b + 45)]), .inl (cT 0, 16, .inl (fun _ => 0)), .inl (cT 0, 4, .inl (fun _ => 0)), .inl (cT 1, 600, .inl (fun _ => 0)), .inr (8, [.ref (b + 49), .ref (b + 54), .ref (b + 59), .ref (b + 64), .ref (b + 69), .ref (b + 70), .int 0, .int 0, .int (-1)]), .inl (cT 4, 2, .inr (.inr (.inr (.inr (va_up (va_up (fun _ => none) 0 (some (b + 50))) 1 (some (b + 52))))))), .inr (0, [.ref (b + 51)]), .inl (cT 0, 58, .inl (upd (fun _ => 0) 2 (-1))), .inr (0, [.ref (b + 53)]), .inl (cT 0, 58, .inl (upd (fun _ => 0) 2 (-1))), .inl (cT 5, 2, .inr (.inr (.inr (.inr (va_up (va_up (fun _ => none) 0 (some (b + 55))) 1 (some (b + 57))))))), .inr (4, [.int 24, .int 3, .int 3, .ref (b + 56)]), .inl (cT 0, 97, .inl (fun _ => 0)), .inr (4, [.int 24, .int 3, .int 3, .ref (b + 58)]), .inl (cT 0, 97, .inl (fun _ => 0)), .inl (cT 6, 2, .inr (.inr (.inr (.inr (va_up (va_up (fun _ => none) 0 (some (b + 60))) 1 (some (b + 62))))))), .inr (3, [.int 8, .int 2, .int 12, .ref (b + 61)]), .inl (cT 0, 25, .inl (fun _ => 0)), .inr (3, [.int 8, .int 2, .int 12, .ref (b + 63)]), .inl (cT 0, 25, .inl (fun _ => 0)), .inl (cT 7, 2, .inr (.inr (.inr (.inr (va_up (va_up (fun _ => none) 0 (some (b + 65))) 1 (some (b + 67))))))), .inr (1, [.int 5, .int 2, .int 17, .ref (b + 66)]), .inl (cT 0, 16, .inl (fun _ => 0)), .inr (1, [.int 5, .int 2, .int 17, .ref (b + 68)]), .inl (cT 0, 16, .inl (fun _ => 0)), .inl (cT 0, 4, .inl (fun _ => 0)), .inl (cT 1, 600, .inl (fun _ => 0)), .inr (8, [.ref (b + 72), .ref (b + 77), .ref (b + 82), .ref (b + 87), .ref (b + 92), .ref (b + 93), .int 0, .int 0, .int (-1)]), .inl (cT 4, 2, .inr (.inr (.inr (.inr (va_up (va_up (fun _ => none) 0 (some (b + 73))) 1 (some (b + 75))))))), .inr (0, [.ref (b + 74)]), .inl (cT 0, 58, .inl (upd (fun _ => 0) 2 (-1))), .inr (0, [.ref (b + 76)]), .inl (cT 0, 58, .inl (upd (fun _ => 0) 2 (-1))), .inl (cT 5, 2, .inr (.inr (.inr (.inr (va_up (va_up (fun _ => none) 0 (some (b + 78))) 1 (some (b + 80))))))), .inr (4, [.int 24, .int 3, .int 3, .ref (b + 79)]), .inl (cT 0, 97, .inl (fun _ => 0)), .inr (4, [.int 24, .int 3, .int 3, .ref (b + 81)]), .inl (cT 0, 97, .inl (fun _ => 0)), .inl (cT 6, 2, .inr (.inr (.inr (.inr (va_up (va_up (fun _ => none) 0 (some (b + 83))) 1 (some (b + 85))))))), .inr (3, [.int 8, .int 2, .int 12, .ref (b + 84)]), .inl (cT 0, 25, .inl (fun _ => 0)), .inr (3, [.int 8, .int 2, .int 12, .ref (b + 86)]), .inl (cT 0, 25, .inl (fun _ => 0)), .inl (cT 7, 2, .inr (.inr (.inr (.inr (va_up (va_up (fun _ => none) 0 (some (b + 88))) 1 (some (b + 90))))))), .inr (1, [.int 5, .int 2, .int 17, .ref (b + 89)]), .inl (cT 0, 16, .inl (fun _ => 0)), .inr (1, [.int 5, .int 2, .int 17, .ref (b + 91)]), .inl (cT 0, 16, .inl (fun _ => 0)), .inl (cT 0, 4, .inl (fun _ => 0)), .inl (cT 1, 600, .inl (fun _ => 0)), .inl (cT 2, 3, .inl (fun _ => 0)), .inl (cT 9, 4, .inr (.inr (.inr (.inr (va_up (va_up (va_up (va_up (fun _ => none) 0 (some (b + 96))) 1 (some (b + 98))) 2 (some (b + 100))) 3 (some (b + 102))))))), .inr (0, [.ref (b + 97)]), .inl (cT 0, 58, .inl (upd (fun _ => 0) 2 (-1))), .inr (4, [.int 24, .int 3, .int 3, .ref (b + 99)]), .inl (cT 0, 97, .inl (fun _ => 0)), .inr (3, [.int 8, .int 2, .int 12, .ref (b + 101)]), .inl (cT 0, 25, .inl (fun _ => 0)), .inr (1, [.int 5, .int 2, .int 17, .ref (b + 103)]), .inl (cT 0, 16, .inl (fun _ => 0)), .inr (4, [.int 24, .int 3, .int 3, .ref (b + 105)]), .inl (cT 0, 97, .inl (fun _ => 0)), .inr (6, [.ref (b + 107), .ref (b + 108), .int 0, .int 0, .int 0, .int 0]), .inl (cT 0, 5, .inl (fun _ => 0)), .inl (cT 1, 0, .inl (fun _ => 0)), .inr (5, [.ref (b + 110), .ref (b + 112), .ref (b + 113), .ref (b + 114), .ref (b + 115), .ref (b + 116), .ref (b + 117), .ref (b + 118), .ref (b + 119), .int 0, .int 0, .int 0]), .inr (0, [.ref (b + 111)]), .inl (cT 0, 58, .inl (upd (fun _ => 0) 2 (-1))), .inl (cT 0, 8, .inl (fun _ => 0)), .inl (cT 0, 8, .inl (fun _ => 0)), .inl (cT 0, 8, .inl (fun _ => 0)), .inl (cT 0, 8, .inl (fun _ => 0)), .inl (cT 0, 5, .inl (fun _ => 0)), .inl (cT 0, 5, .inl (fun _ => 0)), .inl (cT 0, 5, .inl (fun _ => 0)), .inl (cT 0, 40, .inl (fun _ => 0)), .inr (7, [.ref (b + 121), .null, .ref (b + 123), .ref (b + 124), .int 0, .ref (b + 125), .ref (b + 126), .ref (b + 127), .ref (b + 128), .ref (b + 129), .int 0]), .inr (0, [.ref (b + 122)]), .inl (cT 0, 58, .inl (upd (fun _ => 0) 2 (-1))), .inl (cT 0, 40, .inl (fun _ => 0)), .inl (cT 0, 5, .inl (fun _ => 0)), .inl (cT 0, 8, .inl (fun _ => 0)), .inl (cT 0, 5, .inl (fun _ => 0)), .inl (cT 0, 5, .inl (fun _ => 0)), .inl (cT 0, 8, .inl (fun _ => 0)), .inl (cT 0, 5, .inl (fun _ => 0)), .inr (2, [.ref (b + 131), .ref (b + 132), .ref (b + 133), .ref (b + 134), .int 0, .int 0]), .inl (cT 0, 256, .inl (fun _ => 0)), .inl (cT 0, 256, .inl (fun _ => 0)), .inl (cT 3, 256, .inr (.inl (fun _ => 0))), .inl (cT 3, 256, .inr (.inl (fun _ => 0)))]
abbrev gb_M (cT : Nat → ClassId) (b : Nat) : List va_E := [.inr (10, [.ref (b + 1), .ref (b + 2), .int 0, .int 0, .int 0, .int 0, .int 0, .int 0, .int 0, .int 0, .ref (b + 3), .int 0, .int 0, .ref (b + 4), .ref (b + 5), .ref (b + 6), .ref (b + 7), .ref (b + 8), .ref (b + 9), .ref (b + 10), .ref (b + 11), .ref (b + 12), .int 0, .int 0, .int 0, .int 0, .ref (b + 13), .ref (b + 14), .int 0, .int 0, .ref (b + 15), .ref (b + 16), .ref (b + 17), .long 0, .int 0, .int 0, .int 0, .ref (b + 18), .int 0, .ref (b + 19), .ref (b + 20), .int 0, .int 0, .ref (b + 21)]), .inl (cT 0, 3968, .inl (upd (fun _ => 0) 6 (-1))), .inl (cT 2, 3, .inl (fun _ => 0)), .inl (cT 0, 97, .inl (fun _ => 0)), .inl (cT 0, 8, .inl (fun _ => 0)), .inl (cT 0, 8, .inl (fun _ => 0)), .inl (cT 0, 8, .inl (fun _ => 0)), .inl (cT 0, 8, .inl (fun _ => 0)), .inl (cT 2, 8, .inl (fun _ => 0)), .inl (cT 0, 40, .inl (fun _ => 0)), .inl (cT 0, 5, .inl (fun _ => 0)), .inl (cT 0, 5, .inl (fun _ => 0)), .inl (cT 0, 5, .inl (fun _ => 0)), .inl (cT 0, 40, .inl (fun _ => 0)), .inl (cT 0, 5, .inl (fun _ => 0)), .inl (cT 0, 5, .inl (fun _ => 0)), .inl (cT 0, 8, .inl (fun _ => 0)), .inl (cT 2, 8, .inl (fun _ => 0)), .inl (cT 0, 8, .inl (fun _ => 0)), .inl (cT 0, 5, .inl (fun _ => 0)), .inl (cT 0, 8, .inl (fun _ => 0)), .inl (cT 2, 256, .inl (fun _ => 0))]
end
section
theorem dX11_border_0 : decode cX11_border 0 = .ok (.aload_n 0, 1) := by decide +kernel
theorem dX11_border_1 : decode cX11_border 1 = .ok (.iload_n 1, 1) := by decide +kernel
theorem dX11_border_2 : decode cX11_border 2 = .ok (.invokevirtual 113, 3) := by decide +kernel
theorem dX11_borderAt_0 : decode cX11_borderAt 0 = .ok (.iload_n 1, 1) := by decide +kernel
theorem dX11_borderAt_1 : decode cX11_borderAt 1 = .ok (.ifCond .lt 28, 3) := by decide +kernel
theorem dX11_borderAt_29 : decode cX11_borderAt 29 = .ok (.aconst_null, 1) := by decide +kernel
theorem dX11_borderAt_30 : decode cX11_borderAt 30 = .ok (.areturn, 1) := by decide +kernel
theorem dX11_borderAt_4 : decode cX11_borderAt 4 = .ok (.iload_n 1, 1) := by decide +kernel
theorem dX11_borderAt_5 : decode cX11_borderAt 5 = .ok (.aload_n 0, 1) := by decide +kernel
theorem dX11_borderAt_6 : decode cX11_borderAt 6 = .ok (.getfield 12, 3) := by decide +kernel
theorem dX11_borderAt_9 : decode cX11_borderAt 9 = .ok (.getfield 88, 3) := by decide +kernel
theorem w_121 : (Cond.fieldLink "GooseBorder" (88 : Nat) "GooseBorder$Told" "held" "[I") ∈ gb_wA := gb_t1 121 rfl rfl
theorem dX11_borderAt_12 : decode cX11_borderAt 12 = .ok (.iconst 0, 1) := by decide +kernel
theorem dX11_borderAt_13 : decode cX11_borderAt 13 = .ok (.iaload, 1) := by decide +kernel
theorem dX11_borderAt_14 : decode cX11_borderAt 14 = .ok (.if_icmp .ge 15, 3) := by decide +kernel
set_option maxHeartbeats 4000000 in
set_option maxRecDepth 100000 in
theorem f_X11_borderAt (l : Launch) (D : va_G) (cT : Nat → ClassId) (tt : Nat → Nat) (b1 b : Nat) (hb1 : b1 ≤ b) (p1 : Int32) : Met l yX11_borderAt (.code yX11_borderAt cX11_borderAt 2 (some (FieldType.object "GooseBorder$Border")) :: gb_wA) ({ frames := 0, cells := 0, slots := 0, locals := 0 }) (gb_Pc D cT tt b1 [.ref (b + 0), .int p1] (fun h => va_P D vwCl (gb_wl b (gb_C cT b)) h)) (gb_Qq (fun r h => r = none ∧ va_P D vwCl (gb_wl b (gb_C cT b)) h) (gb_fr b 135)) 0 0 (gb_fr b 135) := by
  refine Met.ofW (cc := cX11_borderAt) (maxL := 2) (ret := (some (FieldType.object "GooseBorder$Border"))) (by decide) rfl ?_
  intro p e s m args below meth c s₁ B hml hv
  obtain ⟨rfl, hSt, hP⟩ := hv
  have hx := B.exec
  have hb := B.bytes
  have hr := B.returns
  have hts := atoms_spec (ws := .code yX11_borderAt cX11_borderAt 2 (some (FieldType.object "GooseBorder$Border")) :: gb_wA) B.pre
  have hq : ∀ w ∈ gb_wA, w.before _ s = true := fun w h => hts w (List.mem_cons_of_mem _ h)
  have hown : s.vm.findClass RX11 = some m.cls := findClass_of_methodNamed B.named
  have hlocks := B.notSynchronized
  have hK := hSt.1
  have hS : va_S (gb_fr b 135) s.heap s.heap [] := va_S.rf
  have hl := lv_entry ([.ref (b + 0), .int p1]) (n := 2) (Nat.le_of_ble_eq_true rfl)
  rw [lg_entry_eq]
  generalize (lg_sl ([.ref (b + 0), .int p1]) ++ List.replicate (2 - (lg_sl ([.ref (b + 0), .int p1])).length) Slot.unset).toArray = ls at hl ⊢
  have hl : lv_has ls 2 [(0, .ref (b + 0)), (1, .int p1)] := hl
  refine lv_iload_n hx hb dX11_borderAt_0 rfl (lv_at hl 1 rfl) ?_
  refine lv_if_lt (tgt := 29) hx hb dX11_borderAt_1 (by decide) (fun c_1 => ?_) (fun c_1 => ?_)
  · refine lv_null hx hb dX11_borderAt_29 ?_
    exact W.aret (v := .null) hx hb hr (Or.inl ⟨_, rfl⟩) (Or.inl rfl) (fun t ht hW => gb_rq none ht ⟨rfl, hP⟩ hS) hS.2.2 dX11_borderAt_30
  · refine lv_iload_n hx hb dX11_borderAt_4 rfl (lv_at hl 1 rfl) ?_
    refine lv_aload_n hx hb dX11_borderAt_5 rfl (lv_at hl 0 rfl) ?_
    refine va_get (ci := 9) (v := (.ref (b + 1))) (C := RX11) (T := TX11) (N := 10) hx hb hq i_X11 hown hK hP 0 (gb_at b rfl) rfl 0 (by decide) (hq _ w_315) (fun _ h9 => h9) rfl dX11_borderAt_6 ?_
    refine va_get (ci := 8) (v := (.ref (b + 22))) (C := RX10) (T := TX10) (N := 9) hx hb hq i_X10 hown hK hP 1 (gb_at b rfl) rfl 4 (by decide) (hq _ w_121) (fun _ h9 => h9) rfl dX11_borderAt_9 ?_
    refine lv_iconst (v := 0) hx hb dX11_borderAt_12 (by decide) ?_
    refine gb_iald (v := 0) hx hb hK hP 22 0 (gb_at b rfl) rfl (gb_in rfl) rfl dX11_borderAt_13 ?_
    refine lv_icmp_ge (tgt := 29) hx hb dX11_borderAt_14 (by decide) (fun c_14 => ?_) (fun c_14 => absurd (Int32.not_lt.mp c_1) c_14)
    refine lv_null hx hb dX11_borderAt_29 ?_
    exact W.aret (v := .null) hx hb hr (Or.inl ⟨_, rfl⟩) (Or.inl rfl) (fun t ht hW => gb_rq none ht ⟨rfl, hP⟩ hS) hS.2.2 dX11_borderAt_30
theorem w_596 : (Cond.code ({ cls := "GooseBorder", name := "borderAt", desc := "(I)LGooseBorder$Border;" } : MethodName) prog_1_method_16_code (2 : Nat) (Option.some (FieldType.object "GooseBorder$Border"))) ∈ gb_wA := gb_t3 116 rfl rfl
theorem w_593 : (Cond.methodLink "GooseBorder" (113 : Nat) ({ cls := "GooseBorder", name := "borderAt", desc := "(I)LGooseBorder$Border;" } : MethodName)) ∈ gb_wA := gb_t3 113 rfl rfl
theorem w_595 : (Cond.instanceMethod ({ cls := "GooseBorder", name := "borderAt", desc := "(I)LGooseBorder$Border;" } : MethodName)) ∈ gb_wA := gb_t3 115 rfl rfl
theorem s_1_7 : Cond.selects "GooseBorder" (⟨"GooseBorder", "borderAt", "(I)LGooseBorder$Border;"⟩ : MethodName) (⟨"GooseBorder", "borderAt", "(I)LGooseBorder$Border;"⟩ : MethodName) ∈ gb_wA := gb_s1 7 rfl rfl
theorem w_1 : (Cond.initialized "GooseBorder") ∈ gb_wA := gb_t1 1 rfl rfl
theorem dX11_border_5 : decode cX11_border 5 = .ok (.astore_n 3, 1) := by decide +kernel
theorem dX11_border_6 : decode cX11_border 6 = .ok (.aload_n 3, 1) := by decide +kernel
theorem dX11_border_7 : decode cX11_border 7 = .ok (.ifnonnull 6, 3) := by decide +kernel
theorem dX11_border_10 : decode cX11_border 10 = .ok (.bipush (-2), 2) := by decide +kernel
theorem dX11_border_12 : decode cX11_border 12 = .ok (.ireturn, 1) := by decide +kernel
set_option maxHeartbeats 4000000 in
set_option maxRecDepth 100000 in
theorem a_X11_border (l : Launch) (D : va_G) (cT : Nat → ClassId) (tt : Nat → Nat) (b1 b : Nat) (hb1 : b1 ≤ b) (p1 : Int32) (p2 : Int32) : Met l yX11_border (.code yX11_border cX11_border 4 (some FieldType.int) :: gb_wA) ({ frames := 1, cells := 0, slots := 0, locals := 21 }) (gb_Pc D cT tt b1 [.ref (b + 0), .int p1, .int p2] (fun h => va_P D vwCl (gb_wl b (gb_C cT b)) h)) (gb_Qi (fun r _ => r = (-2)) (gb_fr b 135)) 0 0 (gb_fr b 135) := by
  refine Met.ofW (cc := cX11_border) (maxL := 4) (ret := (some FieldType.int)) (by decide) rfl ?_
  intro p e s m args below meth c s₁ B hml hv
  obtain ⟨rfl, hSt, hP⟩ := hv
  have hx := B.exec
  have hb := B.bytes
  have hr := B.returns
  have hts := atoms_spec (ws := .code yX11_border cX11_border 4 (some FieldType.int) :: gb_wA) B.pre
  have hq : ∀ w ∈ gb_wA, w.before _ s = true := fun w h => hts w (List.mem_cons_of_mem _ h)
  have hown : s.vm.findClass RX11 = some m.cls := findClass_of_methodNamed B.named
  have hlocks := B.notSynchronized
  have hK := hSt.1
  have hS : va_S (gb_fr b 135) s.heap s.heap [] := va_S.rf
  have hl := lv_entry ([.ref (b + 0), .int p1, .int p2]) (n := 4) (Nat.le_of_ble_eq_true rfl)
  rw [lg_entry_eq]
  generalize (lg_sl ([.ref (b + 0), .int p1, .int p2]) ++ List.replicate (4 - (lg_sl ([.ref (b + 0), .int p1, .int p2])).length) Slot.unset).toArray = ls at hl ⊢
  have hl : lv_has ls 4 [(0, .ref (b + 0)), (1, .int p1), (2, .int p2)] := hl
  refine lv_aload_n hx hb dX11_border_0 rfl (lv_at hl 0 rfl) ?_
  refine lv_iload_n hx hb dX11_border_1 rfl (lv_at hl 1 rfl) ?_
  refine gb_callq (va_runV (C := RX11) (As := [.int p1]) (rest := []) ⟨hx, hb, hml, hown, hq⟩ (f_X11_borderAt l D cT tt b1 b hb1 p1) (cwV 1 hq (gb_gV w_593 w_595 s_1_7 w_1 w_596) rfl rfl rfl (by decide +kernel) ⟨Nat.le_of_ble_eq_true rfl, Nat.le_of_ble_eq_true rfl⟩) (gb_preV (r := (RX11, TX11, 10)) (ci := 9) (q0 := 0) hSt hP rfl (gb_at b rfl) hS (fun q h => Nat.le_trans hb1 h.1) hP) rfl rfl hl.1 rfl (lv_room (Nat.le_of_ble_eq_true rfl)) dX11_border_2 ⟨Nat.le_of_ble_eq_true rfl, Nat.le_of_ble_eq_true rfl⟩) hS (fun _ h => h) (fun _ h => h) (fun r H locs hY hk hS => ?_)
  obtain ⟨hr9, hP⟩ := hY
  subst hr9
  refine W.eq (g2 := F0 m 5 ls [.null]) rfl ?_
  refine lv_astore_nN (lv' := [(3, .null), (0, .ref (b + 0)), (1, .int p1), (2, .int p2)]) hx hb dX11_border_5 rfl hl (by decide) rfl (fun ls hl => ?_)
  refine lv_aload_nN hx hb dX11_border_6 rfl (lv_at hl 0 rfl) ?_
  refine lv_ifnonnullN hx hb dX11_border_7 ?_
  refine lv_bipush (v := (-2)) hx hb dX11_border_10 (by decide) ?_
  exact W.iret (v := (-2)) hx hb hr (fun t ht hW => gb_ri ht rfl hS) hS.2.2 dX11_border_12
theorem dX11_marks_0 : decode cX11_marks 0 = .ok (.aload_n 0, 1) := by decide +kernel
theorem dX11_marks_1 : decode cX11_marks 1 = .ok (.iload_n 1, 1) := by decide +kernel
theorem dX11_marks_2 : decode cX11_marks 2 = .ok (.invokevirtual 113, 3) := by decide +kernel
theorem dX11_marks_5 : decode cX11_marks 5 = .ok (.astore 5, 2) := by decide +kernel
theorem dX11_marks_7 : decode cX11_marks 7 = .ok (.aload 5, 2) := by decide +kernel
theorem dX11_marks_9 : decode cX11_marks 9 = .ok (.ifnull 21, 3) := by decide +kernel
theorem dX11_marks_30 : decode cX11_marks 30 = .ok (.iconst (-1), 1) := by decide +kernel
theorem dX11_marks_31 : decode cX11_marks 31 = .ok (.ireturn, 1) := by decide +kernel
set_option maxHeartbeats 4000000 in
set_option maxRecDepth 100000 in
theorem a_X11_marks (l : Launch) (D : va_G) (cT : Nat → ClassId) (tt : Nat → Nat) (b1 b : Nat) (hb1 : b1 ≤ b) (p1 : Int32) (p2 : Int32) (p3 : Int32) (p4 : Int32) : Met l yX11_marks (.code yX11_marks cX11_marks 6 (some FieldType.int) :: gb_wA) ({ frames := 1, cells := 0, slots := 0, locals := 21 }) (gb_Pc D cT tt b1 [.ref (b + 0), .int p1, .int p2, .int p3, .int p4] (fun h => va_P D vwCl (gb_wl b (gb_C cT b)) h)) (gb_Qi (fun r _ => r = (-1)) (gb_fr b 135)) 0 0 (gb_fr b 135) := by
  refine Met.ofW (cc := cX11_marks) (maxL := 6) (ret := (some FieldType.int)) (by decide) rfl ?_
  intro p e s m args below meth c s₁ B hml hv
  obtain ⟨rfl, hSt, hP⟩ := hv
  have hx := B.exec
  have hb := B.bytes
  have hr := B.returns
  have hts := atoms_spec (ws := .code yX11_marks cX11_marks 6 (some FieldType.int) :: gb_wA) B.pre
  have hq : ∀ w ∈ gb_wA, w.before _ s = true := fun w h => hts w (List.mem_cons_of_mem _ h)
  have hown : s.vm.findClass RX11 = some m.cls := findClass_of_methodNamed B.named
  have hlocks := B.notSynchronized
  have hK := hSt.1
  have hS : va_S (gb_fr b 135) s.heap s.heap [] := va_S.rf
  have hl := lv_entry ([.ref (b + 0), .int p1, .int p2, .int p3, .int p4]) (n := 6) (Nat.le_of_ble_eq_true rfl)
  rw [lg_entry_eq]
  generalize (lg_sl ([.ref (b + 0), .int p1, .int p2, .int p3, .int p4]) ++ List.replicate (6 - (lg_sl ([.ref (b + 0), .int p1, .int p2, .int p3, .int p4])).length) Slot.unset).toArray = ls at hl ⊢
  have hl : lv_has ls 6 [(0, .ref (b + 0)), (1, .int p1), (2, .int p2), (3, .int p3), (4, .int p4)] := hl
  refine lv_aload_n hx hb dX11_marks_0 rfl (lv_at hl 0 rfl) ?_
  refine lv_iload_n hx hb dX11_marks_1 rfl (lv_at hl 1 rfl) ?_
  refine gb_callq (va_runV (C := RX11) (As := [.int p1]) (rest := []) ⟨hx, hb, hml, hown, hq⟩ (f_X11_borderAt l D cT tt b1 b hb1 p1) (cwV 1 hq (gb_gV w_593 w_595 s_1_7 w_1 w_596) rfl rfl rfl (by decide +kernel) ⟨Nat.le_of_ble_eq_true rfl, Nat.le_of_ble_eq_true rfl⟩) (gb_preV (r := (RX11, TX11, 10)) (ci := 9) (q0 := 0) hSt hP rfl (gb_at b rfl) hS (fun q h => Nat.le_trans hb1 h.1) hP) rfl rfl hl.1 rfl (lv_room (Nat.le_of_ble_eq_true rfl)) dX11_marks_2 ⟨Nat.le_of_ble_eq_true rfl, Nat.le_of_ble_eq_true rfl⟩) hS (fun _ h => h) (fun _ h => h) (fun r H locs hY hk hS => ?_)
  obtain ⟨hr9, hP⟩ := hY
  subst hr9
  refine W.eq (g2 := F0 m 5 ls [.null]) rfl ?_
  refine lv_astoreN (lv' := [(5, .null), (0, .ref (b + 0)), (1, .int p1), (2, .int p2), (3, .int p3), (4, .int p4)]) hx hb dX11_marks_5 hl (by decide) rfl (fun ls hl => ?_)
  refine lv_aloadN hx hb dX11_marks_7 (lv_at hl 0 rfl) ?_
  refine lv_ifnullN (tgt := 30) hx hb dX11_marks_9 (by decide) ?_
  refine lv_iconst (v := (-1)) hx hb dX11_marks_30 (by decide) ?_
  exact W.iret (v := (-1)) hx hb hr (fun t ht hW => gb_ri ht rfl hS) hS.2.2 dX11_marks_31
theorem dX11_deed_0 : decode cX11_deed 0 = .ok (.aload_n 0, 1) := by decide +kernel
theorem dX11_deed_1 : decode cX11_deed 1 = .ok (.iload_n 1, 1) := by decide +kernel
theorem dX11_deed_2 : decode cX11_deed 2 = .ok (.invokevirtual 148, 3) := by decide +kernel
theorem dX11_nightAt_0 : decode cX11_nightAt 0 = .ok (.iload_n 1, 1) := by decide +kernel
theorem dX11_nightAt_1 : decode cX11_nightAt 1 = .ok (.ifCond .lt 28, 3) := by decide +kernel
theorem dX11_nightAt_29 : decode cX11_nightAt 29 = .ok (.aconst_null, 1) := by decide +kernel
theorem dX11_nightAt_30 : decode cX11_nightAt 30 = .ok (.areturn, 1) := by decide +kernel
theorem dX11_nightAt_4 : decode cX11_nightAt 4 = .ok (.iload_n 1, 1) := by decide +kernel
theorem dX11_nightAt_5 : decode cX11_nightAt 5 = .ok (.aload_n 0, 1) := by decide +kernel
theorem dX11_nightAt_6 : decode cX11_nightAt 6 = .ok (.getfield 12, 3) := by decide +kernel
theorem dX11_nightAt_9 : decode cX11_nightAt 9 = .ok (.getfield 88, 3) := by decide +kernel
theorem dX11_nightAt_12 : decode cX11_nightAt 12 = .ok (.iconst 1, 1) := by decide +kernel
theorem dX11_nightAt_13 : decode cX11_nightAt 13 = .ok (.iaload, 1) := by decide +kernel
theorem dX11_nightAt_14 : decode cX11_nightAt 14 = .ok (.if_icmp .ge 15, 3) := by decide +kernel
set_option maxHeartbeats 4000000 in
set_option maxRecDepth 100000 in
theorem f_X11_nightAt (l : Launch) (D : va_G) (cT : Nat → ClassId) (tt : Nat → Nat) (b1 b : Nat) (hb1 : b1 ≤ b) (p1 : Int32) : Met l yX11_nightAt (.code yX11_nightAt cX11_nightAt 2 (some (FieldType.object "GooseBorder$Night")) :: gb_wA) ({ frames := 0, cells := 0, slots := 0, locals := 0 }) (gb_Pc D cT tt b1 [.ref (b + 0), .int p1] (fun h => va_P D vwCl (gb_wl b (gb_C cT b)) h)) (gb_Qq (fun r h => r = none ∧ va_P D vwCl (gb_wl b (gb_C cT b)) h) (gb_fr b 135)) 0 0 (gb_fr b 135) := by
  refine Met.ofW (cc := cX11_nightAt) (maxL := 2) (ret := (some (FieldType.object "GooseBorder$Night"))) (by decide) rfl ?_
  intro p e s m args below meth c s₁ B hml hv
  obtain ⟨rfl, hSt, hP⟩ := hv
  have hx := B.exec
  have hb := B.bytes
  have hr := B.returns
  have hts := atoms_spec (ws := .code yX11_nightAt cX11_nightAt 2 (some (FieldType.object "GooseBorder$Night")) :: gb_wA) B.pre
  have hq : ∀ w ∈ gb_wA, w.before _ s = true := fun w h => hts w (List.mem_cons_of_mem _ h)
  have hown : s.vm.findClass RX11 = some m.cls := findClass_of_methodNamed B.named
  have hlocks := B.notSynchronized
  have hK := hSt.1
  have hS : va_S (gb_fr b 135) s.heap s.heap [] := va_S.rf
  have hl := lv_entry ([.ref (b + 0), .int p1]) (n := 2) (Nat.le_of_ble_eq_true rfl)
  rw [lg_entry_eq]
  generalize (lg_sl ([.ref (b + 0), .int p1]) ++ List.replicate (2 - (lg_sl ([.ref (b + 0), .int p1])).length) Slot.unset).toArray = ls at hl ⊢
  have hl : lv_has ls 2 [(0, .ref (b + 0)), (1, .int p1)] := hl
  refine lv_iload_n hx hb dX11_nightAt_0 rfl (lv_at hl 1 rfl) ?_
  refine lv_if_lt (tgt := 29) hx hb dX11_nightAt_1 (by decide) (fun c_1 => ?_) (fun c_1 => ?_)
  · refine lv_null hx hb dX11_nightAt_29 ?_
    exact W.aret (v := .null) hx hb hr (Or.inl ⟨_, rfl⟩) (Or.inl rfl) (fun t ht hW => gb_rq none ht ⟨rfl, hP⟩ hS) hS.2.2 dX11_nightAt_30
  · refine lv_iload_n hx hb dX11_nightAt_4 rfl (lv_at hl 1 rfl) ?_
    refine lv_aload_n hx hb dX11_nightAt_5 rfl (lv_at hl 0 rfl) ?_
    refine va_get (ci := 9) (v := (.ref (b + 1))) (C := RX11) (T := TX11) (N := 10) hx hb hq i_X11 hown hK hP 0 (gb_at b rfl) rfl 0 (by decide) (hq _ w_315) (fun _ h9 => h9) rfl dX11_nightAt_6 ?_
    refine va_get (ci := 8) (v := (.ref (b + 22))) (C := RX10) (T := TX10) (N := 9) hx hb hq i_X10 hown hK hP 1 (gb_at b rfl) rfl 4 (by decide) (hq _ w_121) (fun _ h9 => h9) rfl dX11_nightAt_9 ?_
    refine lv_iconst (v := 1) hx hb dX11_nightAt_12 (by decide) ?_
    refine gb_iald (v := 0) hx hb hK hP 22 0 (gb_at b rfl) rfl (gb_in rfl) rfl dX11_nightAt_13 ?_
    refine lv_icmp_ge (tgt := 29) hx hb dX11_nightAt_14 (by decide) (fun c_14 => ?_) (fun c_14 => absurd (Int32.not_lt.mp c_1) c_14)
    refine lv_null hx hb dX11_nightAt_29 ?_
    exact W.aret (v := .null) hx hb hr (Or.inl ⟨_, rfl⟩) (Or.inl rfl) (fun t ht hW => gb_rq none ht ⟨rfl, hP⟩ hS) hS.2.2 dX11_nightAt_30
theorem w_649 : (Cond.code ({ cls := "GooseBorder", name := "nightAt", desc := "(I)LGooseBorder$Night;" } : MethodName) prog_1_method_17_code (2 : Nat) (Option.some (FieldType.object "GooseBorder$Night"))) ∈ gb_wA := gb_t3 169 rfl rfl
theorem w_646 : (Cond.methodLink "GooseBorder" (148 : Nat) ({ cls := "GooseBorder", name := "nightAt", desc := "(I)LGooseBorder$Night;" } : MethodName)) ∈ gb_wA := gb_t3 166 rfl rfl
theorem w_648 : (Cond.instanceMethod ({ cls := "GooseBorder", name := "nightAt", desc := "(I)LGooseBorder$Night;" } : MethodName)) ∈ gb_wA := gb_t3 168 rfl rfl
theorem s_1_8 : Cond.selects "GooseBorder" (⟨"GooseBorder", "nightAt", "(I)LGooseBorder$Night;"⟩ : MethodName) (⟨"GooseBorder", "nightAt", "(I)LGooseBorder$Night;"⟩ : MethodName) ∈ gb_wA := gb_s1 8 rfl rfl
theorem dX11_deed_5 : decode cX11_deed 5 = .ok (.astore 4, 2) := by decide +kernel
theorem dX11_deed_7 : decode cX11_deed 7 = .ok (.aload 4, 2) := by decide +kernel
theorem dX11_deed_9 : decode cX11_deed 9 = .ok (.ifnonnull 8, 3) := by decide +kernel
theorem dX11_deed_12 : decode cX11_deed 12 = .ok (.bipush (-2), 2) := by decide +kernel
theorem dX11_deed_14 : decode cX11_deed 14 = .ok (.goto 10, 3) := by decide +kernel
theorem dX11_deed_24 : decode cX11_deed 24 = .ok (.ireturn, 1) := by decide +kernel
set_option maxHeartbeats 4000000 in
set_option maxRecDepth 100000 in
theorem a_X11_deed (l : Launch) (D : va_G) (cT : Nat → ClassId) (tt : Nat → Nat) (b1 b : Nat) (hb1 : b1 ≤ b) (p1 : Int32) (p2 : Int32) (p3 : Int32) : Met l yX11_deed (.code yX11_deed cX11_deed 5 (some FieldType.int) :: gb_wA) ({ frames := 1, cells := 0, slots := 0, locals := 21 }) (gb_Pc D cT tt b1 [.ref (b + 0), .int p1, .int p2, .int p3] (fun h => va_P D vwCl (gb_wl b (gb_C cT b)) h)) (gb_Qi (fun r _ => r = (-2)) (gb_fr b 135)) 0 0 (gb_fr b 135) := by
  refine Met.ofW (cc := cX11_deed) (maxL := 5) (ret := (some FieldType.int)) (by decide) rfl ?_
  intro p e s m args below meth c s₁ B hml hv
  obtain ⟨rfl, hSt, hP⟩ := hv
  have hx := B.exec
  have hb := B.bytes
  have hr := B.returns
  have hts := atoms_spec (ws := .code yX11_deed cX11_deed 5 (some FieldType.int) :: gb_wA) B.pre
  have hq : ∀ w ∈ gb_wA, w.before _ s = true := fun w h => hts w (List.mem_cons_of_mem _ h)
  have hown : s.vm.findClass RX11 = some m.cls := findClass_of_methodNamed B.named
  have hlocks := B.notSynchronized
  have hK := hSt.1
  have hS : va_S (gb_fr b 135) s.heap s.heap [] := va_S.rf
  have hl := lv_entry ([.ref (b + 0), .int p1, .int p2, .int p3]) (n := 5) (Nat.le_of_ble_eq_true rfl)
  rw [lg_entry_eq]
  generalize (lg_sl ([.ref (b + 0), .int p1, .int p2, .int p3]) ++ List.replicate (5 - (lg_sl ([.ref (b + 0), .int p1, .int p2, .int p3])).length) Slot.unset).toArray = ls at hl ⊢
  have hl : lv_has ls 5 [(0, .ref (b + 0)), (1, .int p1), (2, .int p2), (3, .int p3)] := hl
  refine lv_aload_n hx hb dX11_deed_0 rfl (lv_at hl 0 rfl) ?_
  refine lv_iload_n hx hb dX11_deed_1 rfl (lv_at hl 1 rfl) ?_
  refine gb_callq (va_runV (C := RX11) (As := [.int p1]) (rest := []) ⟨hx, hb, hml, hown, hq⟩ (f_X11_nightAt l D cT tt b1 b hb1 p1) (cwV 1 hq (gb_gV w_646 w_648 s_1_8 w_1 w_649) rfl rfl rfl (by decide +kernel) ⟨Nat.le_of_ble_eq_true rfl, Nat.le_of_ble_eq_true rfl⟩) (gb_preV (r := (RX11, TX11, 10)) (ci := 9) (q0 := 0) hSt hP rfl (gb_at b rfl) hS (fun q h => Nat.le_trans hb1 h.1) hP) rfl rfl hl.1 rfl (lv_room (Nat.le_of_ble_eq_true rfl)) dX11_deed_2 ⟨Nat.le_of_ble_eq_true rfl, Nat.le_of_ble_eq_true rfl⟩) hS (fun _ h => h) (fun _ h => h) (fun r H locs hY hk hS => ?_)
  obtain ⟨hr9, hP⟩ := hY
  subst hr9
  refine W.eq (g2 := F0 m 5 ls [.null]) rfl ?_
  refine lv_astoreN (lv' := [(4, .null), (0, .ref (b + 0)), (1, .int p1), (2, .int p2), (3, .int p3)]) hx hb dX11_deed_5 hl (by decide) rfl (fun ls hl => ?_)
  refine lv_aloadN hx hb dX11_deed_7 (lv_at hl 0 rfl) ?_
  refine lv_ifnonnullN hx hb dX11_deed_9 ?_
  refine lv_bipush (v := (-2)) hx hb dX11_deed_12 (by decide) ?_
  refine lv_goto (tgt := 24) hx hb dX11_deed_14 (by decide) ?_
  exact W.iret (v := (-2)) hx hb hr (fun t ht hW => gb_ri ht rfl hS) hS.2.2 dX11_deed_24
theorem dX11_term_0 : decode cX11_term 0 = .ok (.aload_n 0, 1) := by decide +kernel
theorem dX11_term_1 : decode cX11_term 1 = .ok (.iload_n 1, 1) := by decide +kernel
theorem dX11_term_2 : decode cX11_term 2 = .ok (.invokevirtual 156, 3) := by decide +kernel
theorem dX11_lawAt_0 : decode cX11_lawAt 0 = .ok (.iload_n 1, 1) := by decide +kernel
theorem dX11_lawAt_1 : decode cX11_lawAt 1 = .ok (.ifCond .lt 28, 3) := by decide +kernel
theorem dX11_lawAt_29 : decode cX11_lawAt 29 = .ok (.aconst_null, 1) := by decide +kernel
theorem dX11_lawAt_30 : decode cX11_lawAt 30 = .ok (.areturn, 1) := by decide +kernel
theorem dX11_lawAt_4 : decode cX11_lawAt 4 = .ok (.iload_n 1, 1) := by decide +kernel
theorem dX11_lawAt_5 : decode cX11_lawAt 5 = .ok (.aload_n 0, 1) := by decide +kernel
theorem dX11_lawAt_6 : decode cX11_lawAt 6 = .ok (.getfield 12, 3) := by decide +kernel
theorem dX11_lawAt_9 : decode cX11_lawAt 9 = .ok (.getfield 88, 3) := by decide +kernel
theorem dX11_lawAt_12 : decode cX11_lawAt 12 = .ok (.iconst 2, 1) := by decide +kernel
theorem dX11_lawAt_13 : decode cX11_lawAt 13 = .ok (.iaload, 1) := by decide +kernel
theorem dX11_lawAt_14 : decode cX11_lawAt 14 = .ok (.if_icmp .ge 15, 3) := by decide +kernel
set_option maxHeartbeats 4000000 in
set_option maxRecDepth 100000 in
theorem f_X11_lawAt (l : Launch) (D : va_G) (cT : Nat → ClassId) (tt : Nat → Nat) (b1 b : Nat) (hb1 : b1 ≤ b) (p1 : Int32) : Met l yX11_lawAt (.code yX11_lawAt cX11_lawAt 2 (some (FieldType.object "GooseBorder$Law")) :: gb_wA) ({ frames := 0, cells := 0, slots := 0, locals := 0 }) (gb_Pc D cT tt b1 [.ref (b + 0), .int p1] (fun h => va_P D vwCl (gb_wl b (gb_C cT b)) h)) (gb_Qq (fun r h => r = none ∧ va_P D vwCl (gb_wl b (gb_C cT b)) h) (gb_fr b 135)) 0 0 (gb_fr b 135) := by
  refine Met.ofW (cc := cX11_lawAt) (maxL := 2) (ret := (some (FieldType.object "GooseBorder$Law"))) (by decide) rfl ?_
  intro p e s m args below meth c s₁ B hml hv
  obtain ⟨rfl, hSt, hP⟩ := hv
  have hx := B.exec
  have hb := B.bytes
  have hr := B.returns
  have hts := atoms_spec (ws := .code yX11_lawAt cX11_lawAt 2 (some (FieldType.object "GooseBorder$Law")) :: gb_wA) B.pre
  have hq : ∀ w ∈ gb_wA, w.before _ s = true := fun w h => hts w (List.mem_cons_of_mem _ h)
  have hown : s.vm.findClass RX11 = some m.cls := findClass_of_methodNamed B.named
  have hlocks := B.notSynchronized
  have hK := hSt.1
  have hS : va_S (gb_fr b 135) s.heap s.heap [] := va_S.rf
  have hl := lv_entry ([.ref (b + 0), .int p1]) (n := 2) (Nat.le_of_ble_eq_true rfl)
  rw [lg_entry_eq]
  generalize (lg_sl ([.ref (b + 0), .int p1]) ++ List.replicate (2 - (lg_sl ([.ref (b + 0), .int p1])).length) Slot.unset).toArray = ls at hl ⊢
  have hl : lv_has ls 2 [(0, .ref (b + 0)), (1, .int p1)] := hl
  refine lv_iload_n hx hb dX11_lawAt_0 rfl (lv_at hl 1 rfl) ?_
  refine lv_if_lt (tgt := 29) hx hb dX11_lawAt_1 (by decide) (fun c_1 => ?_) (fun c_1 => ?_)
  · refine lv_null hx hb dX11_lawAt_29 ?_
    exact W.aret (v := .null) hx hb hr (Or.inl ⟨_, rfl⟩) (Or.inl rfl) (fun t ht hW => gb_rq none ht ⟨rfl, hP⟩ hS) hS.2.2 dX11_lawAt_30
  · refine lv_iload_n hx hb dX11_lawAt_4 rfl (lv_at hl 1 rfl) ?_
    refine lv_aload_n hx hb dX11_lawAt_5 rfl (lv_at hl 0 rfl) ?_
    refine va_get (ci := 9) (v := (.ref (b + 1))) (C := RX11) (T := TX11) (N := 10) hx hb hq i_X11 hown hK hP 0 (gb_at b rfl) rfl 0 (by decide) (hq _ w_315) (fun _ h9 => h9) rfl dX11_lawAt_6 ?_
    refine va_get (ci := 8) (v := (.ref (b + 22))) (C := RX10) (T := TX10) (N := 9) hx hb hq i_X10 hown hK hP 1 (gb_at b rfl) rfl 4 (by decide) (hq _ w_121) (fun _ h9 => h9) rfl dX11_lawAt_9 ?_
    refine lv_iconst (v := 2) hx hb dX11_lawAt_12 (by decide) ?_
    refine gb_iald (v := 0) hx hb hK hP 22 0 (gb_at b rfl) rfl (gb_in rfl) rfl dX11_lawAt_13 ?_
    refine lv_icmp_ge (tgt := 29) hx hb dX11_lawAt_14 (by decide) (fun c_14 => ?_) (fun c_14 => absurd (Int32.not_lt.mp c_1) c_14)
    refine lv_null hx hb dX11_lawAt_29 ?_
    exact W.aret (v := .null) hx hb hr (Or.inl ⟨_, rfl⟩) (Or.inl rfl) (fun t ht hW => gb_rq none ht ⟨rfl, hP⟩ hS) hS.2.2 dX11_lawAt_30
theorem w_662 : (Cond.code ({ cls := "GooseBorder", name := "lawAt", desc := "(I)LGooseBorder$Law;" } : MethodName) prog_1_method_18_code (2 : Nat) (Option.some (FieldType.object "GooseBorder$Law"))) ∈ gb_wA := gb_t3 182 rfl rfl
theorem w_659 : (Cond.methodLink "GooseBorder" (156 : Nat) ({ cls := "GooseBorder", name := "lawAt", desc := "(I)LGooseBorder$Law;" } : MethodName)) ∈ gb_wA := gb_t3 179 rfl rfl
theorem w_661 : (Cond.instanceMethod ({ cls := "GooseBorder", name := "lawAt", desc := "(I)LGooseBorder$Law;" } : MethodName)) ∈ gb_wA := gb_t3 181 rfl rfl
theorem s_1_9 : Cond.selects "GooseBorder" (⟨"GooseBorder", "lawAt", "(I)LGooseBorder$Law;"⟩ : MethodName) (⟨"GooseBorder", "lawAt", "(I)LGooseBorder$Law;"⟩ : MethodName) ∈ gb_wA := gb_s1 9 rfl rfl
theorem dX11_term_5 : decode cX11_term 5 = .ok (.astore 4, 2) := by decide +kernel
theorem dX11_term_7 : decode cX11_term 7 = .ok (.aload 4, 2) := by decide +kernel
theorem dX11_term_9 : decode cX11_term 9 = .ok (.ifnonnull 8, 3) := by decide +kernel
theorem dX11_term_12 : decode cX11_term 12 = .ok (.bipush (-2), 2) := by decide +kernel
theorem dX11_term_14 : decode cX11_term 14 = .ok (.goto 10, 3) := by decide +kernel
theorem dX11_term_24 : decode cX11_term 24 = .ok (.ireturn, 1) := by decide +kernel
set_option maxHeartbeats 4000000 in
set_option maxRecDepth 100000 in
theorem a_X11_term (l : Launch) (D : va_G) (cT : Nat → ClassId) (tt : Nat → Nat) (b1 b : Nat) (hb1 : b1 ≤ b) (p1 : Int32) (p2 : Int32) (p3 : Int32) : Met l yX11_term (.code yX11_term cX11_term 5 (some FieldType.int) :: gb_wA) ({ frames := 1, cells := 0, slots := 0, locals := 21 }) (gb_Pc D cT tt b1 [.ref (b + 0), .int p1, .int p2, .int p3] (fun h => va_P D vwCl (gb_wl b (gb_C cT b)) h)) (gb_Qi (fun r _ => r = (-2)) (gb_fr b 135)) 0 0 (gb_fr b 135) := by
  refine Met.ofW (cc := cX11_term) (maxL := 5) (ret := (some FieldType.int)) (by decide) rfl ?_
  intro p e s m args below meth c s₁ B hml hv
  obtain ⟨rfl, hSt, hP⟩ := hv
  have hx := B.exec
  have hb := B.bytes
  have hr := B.returns
  have hts := atoms_spec (ws := .code yX11_term cX11_term 5 (some FieldType.int) :: gb_wA) B.pre
  have hq : ∀ w ∈ gb_wA, w.before _ s = true := fun w h => hts w (List.mem_cons_of_mem _ h)
  have hown : s.vm.findClass RX11 = some m.cls := findClass_of_methodNamed B.named
  have hlocks := B.notSynchronized
  have hK := hSt.1
  have hS : va_S (gb_fr b 135) s.heap s.heap [] := va_S.rf
  have hl := lv_entry ([.ref (b + 0), .int p1, .int p2, .int p3]) (n := 5) (Nat.le_of_ble_eq_true rfl)
  rw [lg_entry_eq]
  generalize (lg_sl ([.ref (b + 0), .int p1, .int p2, .int p3]) ++ List.replicate (5 - (lg_sl ([.ref (b + 0), .int p1, .int p2, .int p3])).length) Slot.unset).toArray = ls at hl ⊢
  have hl : lv_has ls 5 [(0, .ref (b + 0)), (1, .int p1), (2, .int p2), (3, .int p3)] := hl
  refine lv_aload_n hx hb dX11_term_0 rfl (lv_at hl 0 rfl) ?_
  refine lv_iload_n hx hb dX11_term_1 rfl (lv_at hl 1 rfl) ?_
  refine gb_callq (va_runV (C := RX11) (As := [.int p1]) (rest := []) ⟨hx, hb, hml, hown, hq⟩ (f_X11_lawAt l D cT tt b1 b hb1 p1) (cwV 1 hq (gb_gV w_659 w_661 s_1_9 w_1 w_662) rfl rfl rfl (by decide +kernel) ⟨Nat.le_of_ble_eq_true rfl, Nat.le_of_ble_eq_true rfl⟩) (gb_preV (r := (RX11, TX11, 10)) (ci := 9) (q0 := 0) hSt hP rfl (gb_at b rfl) hS (fun q h => Nat.le_trans hb1 h.1) hP) rfl rfl hl.1 rfl (lv_room (Nat.le_of_ble_eq_true rfl)) dX11_term_2 ⟨Nat.le_of_ble_eq_true rfl, Nat.le_of_ble_eq_true rfl⟩) hS (fun _ h => h) (fun _ h => h) (fun r H locs hY hk hS => ?_)
  obtain ⟨hr9, hP⟩ := hY
  subst hr9
  refine W.eq (g2 := F0 m 5 ls [.null]) rfl ?_
  refine lv_astoreN (lv' := [(4, .null), (0, .ref (b + 0)), (1, .int p1), (2, .int p2), (3, .int p3)]) hx hb dX11_term_5 hl (by decide) rfl (fun ls hl => ?_)
  refine lv_aloadN hx hb dX11_term_7 (lv_at hl 0 rfl) ?_
  refine lv_ifnonnullN hx hb dX11_term_9 ?_
  refine lv_bipush (v := (-2)) hx hb dX11_term_12 (by decide) ?_
  refine lv_goto (tgt := 24) hx hb dX11_term_14 (by decide) ?_
  exact W.iret (v := (-2)) hx hb hr (fun t ht hW => gb_ri ht rfl hS) hS.2.2 dX11_term_24
theorem dX11_seen_0 : decode cX11_seen 0 = .ok (.aload_n 0, 1) := by decide +kernel
theorem dX11_seen_1 : decode cX11_seen 1 = .ok (.iload_n 1, 1) := by decide +kernel
theorem dX11_seen_2 : decode cX11_seen 2 = .ok (.invokevirtual 160, 3) := by decide +kernel
theorem dX11_dawnAt_0 : decode cX11_dawnAt 0 = .ok (.iload_n 1, 1) := by decide +kernel
theorem dX11_dawnAt_1 : decode cX11_dawnAt 1 = .ok (.ifCond .lt 28, 3) := by decide +kernel
theorem dX11_dawnAt_29 : decode cX11_dawnAt 29 = .ok (.aconst_null, 1) := by decide +kernel
theorem dX11_dawnAt_30 : decode cX11_dawnAt 30 = .ok (.areturn, 1) := by decide +kernel
theorem dX11_dawnAt_4 : decode cX11_dawnAt 4 = .ok (.iload_n 1, 1) := by decide +kernel
theorem dX11_dawnAt_5 : decode cX11_dawnAt 5 = .ok (.aload_n 0, 1) := by decide +kernel
theorem dX11_dawnAt_6 : decode cX11_dawnAt 6 = .ok (.getfield 12, 3) := by decide +kernel
theorem dX11_dawnAt_9 : decode cX11_dawnAt 9 = .ok (.getfield 88, 3) := by decide +kernel
theorem dX11_dawnAt_12 : decode cX11_dawnAt 12 = .ok (.iconst 3, 1) := by decide +kernel
theorem dX11_dawnAt_13 : decode cX11_dawnAt 13 = .ok (.iaload, 1) := by decide +kernel
theorem dX11_dawnAt_14 : decode cX11_dawnAt 14 = .ok (.if_icmp .ge 15, 3) := by decide +kernel
set_option maxHeartbeats 4000000 in
set_option maxRecDepth 100000 in
theorem f_X11_dawnAt (l : Launch) (D : va_G) (cT : Nat → ClassId) (tt : Nat → Nat) (b1 b : Nat) (hb1 : b1 ≤ b) (p1 : Int32) : Met l yX11_dawnAt (.code yX11_dawnAt cX11_dawnAt 2 (some (FieldType.object "GooseBorder$Dawn")) :: gb_wA) ({ frames := 0, cells := 0, slots := 0, locals := 0 }) (gb_Pc D cT tt b1 [.ref (b + 0), .int p1] (fun h => va_P D vwCl (gb_wl b (gb_C cT b)) h)) (gb_Qq (fun r h => r = none ∧ va_P D vwCl (gb_wl b (gb_C cT b)) h) (gb_fr b 135)) 0 0 (gb_fr b 135) := by
  refine Met.ofW (cc := cX11_dawnAt) (maxL := 2) (ret := (some (FieldType.object "GooseBorder$Dawn"))) (by decide) rfl ?_
  intro p e s m args below meth c s₁ B hml hv
  obtain ⟨rfl, hSt, hP⟩ := hv
  have hx := B.exec
  have hb := B.bytes
  have hr := B.returns
  have hts := atoms_spec (ws := .code yX11_dawnAt cX11_dawnAt 2 (some (FieldType.object "GooseBorder$Dawn")) :: gb_wA) B.pre
  have hq : ∀ w ∈ gb_wA, w.before _ s = true := fun w h => hts w (List.mem_cons_of_mem _ h)
  have hown : s.vm.findClass RX11 = some m.cls := findClass_of_methodNamed B.named
  have hlocks := B.notSynchronized
  have hK := hSt.1
  have hS : va_S (gb_fr b 135) s.heap s.heap [] := va_S.rf
  have hl := lv_entry ([.ref (b + 0), .int p1]) (n := 2) (Nat.le_of_ble_eq_true rfl)
  rw [lg_entry_eq]
  generalize (lg_sl ([.ref (b + 0), .int p1]) ++ List.replicate (2 - (lg_sl ([.ref (b + 0), .int p1])).length) Slot.unset).toArray = ls at hl ⊢
  have hl : lv_has ls 2 [(0, .ref (b + 0)), (1, .int p1)] := hl
  refine lv_iload_n hx hb dX11_dawnAt_0 rfl (lv_at hl 1 rfl) ?_
  refine lv_if_lt (tgt := 29) hx hb dX11_dawnAt_1 (by decide) (fun c_1 => ?_) (fun c_1 => ?_)
  · refine lv_null hx hb dX11_dawnAt_29 ?_
    exact W.aret (v := .null) hx hb hr (Or.inl ⟨_, rfl⟩) (Or.inl rfl) (fun t ht hW => gb_rq none ht ⟨rfl, hP⟩ hS) hS.2.2 dX11_dawnAt_30
  · refine lv_iload_n hx hb dX11_dawnAt_4 rfl (lv_at hl 1 rfl) ?_
    refine lv_aload_n hx hb dX11_dawnAt_5 rfl (lv_at hl 0 rfl) ?_
    refine va_get (ci := 9) (v := (.ref (b + 1))) (C := RX11) (T := TX11) (N := 10) hx hb hq i_X11 hown hK hP 0 (gb_at b rfl) rfl 0 (by decide) (hq _ w_315) (fun _ h9 => h9) rfl dX11_dawnAt_6 ?_
    refine va_get (ci := 8) (v := (.ref (b + 22))) (C := RX10) (T := TX10) (N := 9) hx hb hq i_X10 hown hK hP 1 (gb_at b rfl) rfl 4 (by decide) (hq _ w_121) (fun _ h9 => h9) rfl dX11_dawnAt_9 ?_
    refine lv_iconst (v := 3) hx hb dX11_dawnAt_12 (by decide) ?_
    refine gb_iald (v := 0) hx hb hK hP 22 0 (gb_at b rfl) rfl (gb_in rfl) rfl dX11_dawnAt_13 ?_
    refine lv_icmp_ge (tgt := 29) hx hb dX11_dawnAt_14 (by decide) (fun c_14 => ?_) (fun c_14 => absurd (Int32.not_lt.mp c_1) c_14)
    refine lv_null hx hb dX11_dawnAt_29 ?_
    exact W.aret (v := .null) hx hb hr (Or.inl ⟨_, rfl⟩) (Or.inl rfl) (fun t ht hW => gb_rq none ht ⟨rfl, hP⟩ hS) hS.2.2 dX11_dawnAt_30
theorem w_670 : (Cond.code ({ cls := "GooseBorder", name := "dawnAt", desc := "(I)LGooseBorder$Dawn;" } : MethodName) prog_1_method_19_code (2 : Nat) (Option.some (FieldType.object "GooseBorder$Dawn"))) ∈ gb_wA := gb_t3 190 rfl rfl
theorem w_667 : (Cond.methodLink "GooseBorder" (160 : Nat) ({ cls := "GooseBorder", name := "dawnAt", desc := "(I)LGooseBorder$Dawn;" } : MethodName)) ∈ gb_wA := gb_t3 187 rfl rfl
theorem w_669 : (Cond.instanceMethod ({ cls := "GooseBorder", name := "dawnAt", desc := "(I)LGooseBorder$Dawn;" } : MethodName)) ∈ gb_wA := gb_t3 189 rfl rfl
theorem s_1_10 : Cond.selects "GooseBorder" (⟨"GooseBorder", "dawnAt", "(I)LGooseBorder$Dawn;"⟩ : MethodName) (⟨"GooseBorder", "dawnAt", "(I)LGooseBorder$Dawn;"⟩ : MethodName) ∈ gb_wA := gb_s1 10 rfl rfl
theorem dX11_seen_5 : decode cX11_seen 5 = .ok (.astore 4, 2) := by decide +kernel
theorem dX11_seen_7 : decode cX11_seen 7 = .ok (.aload 4, 2) := by decide +kernel
theorem dX11_seen_9 : decode cX11_seen 9 = .ok (.ifnull 12, 3) := by decide +kernel
theorem dX11_seen_21 : decode cX11_seen 21 = .ok (.bipush (-2), 2) := by decide +kernel
theorem dX11_seen_23 : decode cX11_seen 23 = .ok (.ireturn, 1) := by decide +kernel
set_option maxHeartbeats 4000000 in
set_option maxRecDepth 100000 in
theorem a_X11_seen (l : Launch) (D : va_G) (cT : Nat → ClassId) (tt : Nat → Nat) (b1 b : Nat) (hb1 : b1 ≤ b) (p1 : Int32) (p2 : Int32) (p3 : Int32) : Met l yX11_seen (.code yX11_seen cX11_seen 5 (some FieldType.int) :: gb_wA) ({ frames := 1, cells := 0, slots := 0, locals := 21 }) (gb_Pc D cT tt b1 [.ref (b + 0), .int p1, .int p2, .int p3] (fun h => va_P D vwCl (gb_wl b (gb_C cT b)) h)) (gb_Qi (fun r _ => r = (-2)) (gb_fr b 135)) 0 0 (gb_fr b 135) := by
  refine Met.ofW (cc := cX11_seen) (maxL := 5) (ret := (some FieldType.int)) (by decide) rfl ?_
  intro p e s m args below meth c s₁ B hml hv
  obtain ⟨rfl, hSt, hP⟩ := hv
  have hx := B.exec
  have hb := B.bytes
  have hr := B.returns
  have hts := atoms_spec (ws := .code yX11_seen cX11_seen 5 (some FieldType.int) :: gb_wA) B.pre
  have hq : ∀ w ∈ gb_wA, w.before _ s = true := fun w h => hts w (List.mem_cons_of_mem _ h)
  have hown : s.vm.findClass RX11 = some m.cls := findClass_of_methodNamed B.named
  have hlocks := B.notSynchronized
  have hK := hSt.1
  have hS : va_S (gb_fr b 135) s.heap s.heap [] := va_S.rf
  have hl := lv_entry ([.ref (b + 0), .int p1, .int p2, .int p3]) (n := 5) (Nat.le_of_ble_eq_true rfl)
  rw [lg_entry_eq]
  generalize (lg_sl ([.ref (b + 0), .int p1, .int p2, .int p3]) ++ List.replicate (5 - (lg_sl ([.ref (b + 0), .int p1, .int p2, .int p3])).length) Slot.unset).toArray = ls at hl ⊢
  have hl : lv_has ls 5 [(0, .ref (b + 0)), (1, .int p1), (2, .int p2), (3, .int p3)] := hl
  refine lv_aload_n hx hb dX11_seen_0 rfl (lv_at hl 0 rfl) ?_
  refine lv_iload_n hx hb dX11_seen_1 rfl (lv_at hl 1 rfl) ?_
  refine gb_callq (va_runV (C := RX11) (As := [.int p1]) (rest := []) ⟨hx, hb, hml, hown, hq⟩ (f_X11_dawnAt l D cT tt b1 b hb1 p1) (cwV 1 hq (gb_gV w_667 w_669 s_1_10 w_1 w_670) rfl rfl rfl (by decide +kernel) ⟨Nat.le_of_ble_eq_true rfl, Nat.le_of_ble_eq_true rfl⟩) (gb_preV (r := (RX11, TX11, 10)) (ci := 9) (q0 := 0) hSt hP rfl (gb_at b rfl) hS (fun q h => Nat.le_trans hb1 h.1) hP) rfl rfl hl.1 rfl (lv_room (Nat.le_of_ble_eq_true rfl)) dX11_seen_2 ⟨Nat.le_of_ble_eq_true rfl, Nat.le_of_ble_eq_true rfl⟩) hS (fun _ h => h) (fun _ h => h) (fun r H locs hY hk hS => ?_)
  obtain ⟨hr9, hP⟩ := hY
  subst hr9
  refine W.eq (g2 := F0 m 5 ls [.null]) rfl ?_
  refine lv_astoreN (lv' := [(4, .null), (0, .ref (b + 0)), (1, .int p1), (2, .int p2), (3, .int p3)]) hx hb dX11_seen_5 hl (by decide) rfl (fun ls hl => ?_)
  refine lv_aloadN hx hb dX11_seen_7 (lv_at hl 0 rfl) ?_
  refine lv_ifnullN (tgt := 21) hx hb dX11_seen_9 (by decide) ?_
  refine lv_bipush (v := (-2)) hx hb dX11_seen_21 (by decide) ?_
  exact W.iret (v := (-2)) hx hb hr (fun t ht hW => gb_ri ht rfl hS) hS.2.2 dX11_seen_23
theorem dX11_pays_0 : decode cX11_pays 0 = .ok (.aload_n 0, 1) := by decide +kernel
theorem dX11_pays_1 : decode cX11_pays 1 = .ok (.iload_n 1, 1) := by decide +kernel
theorem dX11_pays_2 : decode cX11_pays 2 = .ok (.invokevirtual 156, 3) := by decide +kernel
theorem dX11_pays_5 : decode cX11_pays 5 = .ok (.astore_n 3, 1) := by decide +kernel
theorem dX11_pays_6 : decode cX11_pays 6 = .ok (.aload_n 3, 1) := by decide +kernel
theorem dX11_pays_7 : decode cX11_pays 7 = .ok (.ifnull 14, 3) := by decide +kernel
theorem dX11_pays_21 : decode cX11_pays 21 = .ok (.iconst (-1), 1) := by decide +kernel
theorem dX11_pays_22 : decode cX11_pays 22 = .ok (.ireturn, 1) := by decide +kernel
set_option maxHeartbeats 4000000 in
set_option maxRecDepth 100000 in
theorem a_X11_pays (l : Launch) (D : va_G) (cT : Nat → ClassId) (tt : Nat → Nat) (b1 b : Nat) (hb1 : b1 ≤ b) (p1 : Int32) (p2 : Int32) : Met l yX11_pays (.code yX11_pays cX11_pays 4 (some FieldType.int) :: gb_wA) ({ frames := 1, cells := 0, slots := 0, locals := 21 }) (gb_Pc D cT tt b1 [.ref (b + 0), .int p1, .int p2] (fun h => va_P D vwCl (gb_wl b (gb_C cT b)) h)) (gb_Qi (fun r _ => r = (-1)) (gb_fr b 135)) 0 0 (gb_fr b 135) := by
  refine Met.ofW (cc := cX11_pays) (maxL := 4) (ret := (some FieldType.int)) (by decide) rfl ?_
  intro p e s m args below meth c s₁ B hml hv
  obtain ⟨rfl, hSt, hP⟩ := hv
  have hx := B.exec
  have hb := B.bytes
  have hr := B.returns
  have hts := atoms_spec (ws := .code yX11_pays cX11_pays 4 (some FieldType.int) :: gb_wA) B.pre
  have hq : ∀ w ∈ gb_wA, w.before _ s = true := fun w h => hts w (List.mem_cons_of_mem _ h)
  have hown : s.vm.findClass RX11 = some m.cls := findClass_of_methodNamed B.named
  have hlocks := B.notSynchronized
  have hK := hSt.1
  have hS : va_S (gb_fr b 135) s.heap s.heap [] := va_S.rf
  have hl := lv_entry ([.ref (b + 0), .int p1, .int p2]) (n := 4) (Nat.le_of_ble_eq_true rfl)
  rw [lg_entry_eq]
  generalize (lg_sl ([.ref (b + 0), .int p1, .int p2]) ++ List.replicate (4 - (lg_sl ([.ref (b + 0), .int p1, .int p2])).length) Slot.unset).toArray = ls at hl ⊢
  have hl : lv_has ls 4 [(0, .ref (b + 0)), (1, .int p1), (2, .int p2)] := hl
  refine lv_aload_n hx hb dX11_pays_0 rfl (lv_at hl 0 rfl) ?_
  refine lv_iload_n hx hb dX11_pays_1 rfl (lv_at hl 1 rfl) ?_
  refine gb_callq (va_runV (C := RX11) (As := [.int p1]) (rest := []) ⟨hx, hb, hml, hown, hq⟩ (f_X11_lawAt l D cT tt b1 b hb1 p1) (cwV 1 hq (gb_gV w_659 w_661 s_1_9 w_1 w_662) rfl rfl rfl (by decide +kernel) ⟨Nat.le_of_ble_eq_true rfl, Nat.le_of_ble_eq_true rfl⟩) (gb_preV (r := (RX11, TX11, 10)) (ci := 9) (q0 := 0) hSt hP rfl (gb_at b rfl) hS (fun q h => Nat.le_trans hb1 h.1) hP) rfl rfl hl.1 rfl (lv_room (Nat.le_of_ble_eq_true rfl)) dX11_pays_2 ⟨Nat.le_of_ble_eq_true rfl, Nat.le_of_ble_eq_true rfl⟩) hS (fun _ h => h) (fun _ h => h) (fun r H locs hY hk hS => ?_)
  obtain ⟨hr9, hP⟩ := hY
  subst hr9
  refine W.eq (g2 := F0 m 5 ls [.null]) rfl ?_
  refine lv_astore_nN (lv' := [(3, .null), (0, .ref (b + 0)), (1, .int p1), (2, .int p2)]) hx hb dX11_pays_5 rfl hl (by decide) rfl (fun ls hl => ?_)
  refine lv_aload_nN hx hb dX11_pays_6 rfl (lv_at hl 0 rfl) ?_
  refine lv_ifnullN (tgt := 21) hx hb dX11_pays_7 (by decide) ?_
  refine lv_iconst (v := (-1)) hx hb dX11_pays_21 (by decide) ?_
  exact W.iret (v := (-1)) hx hb hr (fun t ht hW => gb_ri ht rfl hS) hS.2.2 dX11_pays_22
theorem dX11_stop_0 : decode cX11_stop 0 = .ok (.aload_n 0, 1) := by decide +kernel
theorem dX11_stop_1 : decode cX11_stop 1 = .ok (.aload_n 0, 1) := by decide +kernel
theorem dX11_stop_2 : decode cX11_stop 2 = .ok (.iload_n 1, 1) := by decide +kernel
theorem dX11_stop_3 : decode cX11_stop 3 = .ok (.invokevirtual 113, 3) := by decide +kernel
theorem dX11_stop_6 : decode cX11_stop 6 = .ok (.aload_n 0, 1) := by decide +kernel
theorem dX11_stop_7 : decode cX11_stop 7 = .ok (.iload_n 2, 1) := by decide +kernel
theorem dX11_stop_8 : decode cX11_stop 8 = .ok (.invokevirtual 148, 3) := by decide +kernel
theorem dX11_stop_11 : decode cX11_stop 11 = .ok (.invokevirtual 195, 3) := by decide +kernel
theorem dX11_playedOut_0 : decode cX11_playedOut 0 = .ok (.aload_n 1, 1) := by decide +kernel
theorem dX11_playedOut_1 : decode cX11_playedOut 1 = .ok (.ifnull 7, 3) := by decide +kernel
theorem dX11_playedOut_8 : decode cX11_playedOut 8 = .ok (.iconst 0, 1) := by decide +kernel
theorem dX11_playedOut_9 : decode cX11_playedOut 9 = .ok (.ireturn, 1) := by decide +kernel
set_option maxHeartbeats 4000000 in
set_option maxRecDepth 100000 in
theorem f_X11_playedOut (l : Launch) (D : va_G) (cT : Nat → ClassId) (tt : Nat → Nat) (b1 b : Nat) (hb1 : b1 ≤ b) : Met l yX11_playedOut (.code yX11_playedOut cX11_playedOut 3 (some FieldType.boolean) :: gb_wA) ({ frames := 0, cells := 0, slots := 0, locals := 0 }) (gb_Pc D cT tt b1 [.ref (b + 0), .null, .null] (fun h => va_P D vwCl (gb_wl b (gb_C cT b)) h)) (gb_Qi (fun r h => r = 0 ∧ va_P D vwCl (gb_wl b (gb_C cT b)) h) (gb_fr b 135)) 0 0 (gb_fr b 135) := by
  refine Met.ofW (cc := cX11_playedOut) (maxL := 3) (ret := (some FieldType.boolean)) (by decide) rfl ?_
  intro p e s m args below meth c s₁ B hml hv
  obtain ⟨rfl, hSt, hP⟩ := hv
  have hx := B.exec
  have hb := B.bytes
  have hr := B.returns
  have hts := atoms_spec (ws := .code yX11_playedOut cX11_playedOut 3 (some FieldType.boolean) :: gb_wA) B.pre
  have hq : ∀ w ∈ gb_wA, w.before _ s = true := fun w h => hts w (List.mem_cons_of_mem _ h)
  have hown : s.vm.findClass RX11 = some m.cls := findClass_of_methodNamed B.named
  have hlocks := B.notSynchronized
  have hK := hSt.1
  have hS : va_S (gb_fr b 135) s.heap s.heap [] := va_S.rf
  have hl := lv_entry ([.ref (b + 0), .null, .null]) (n := 3) (Nat.le_of_ble_eq_true rfl)
  rw [lg_entry_eq]
  generalize (lg_sl ([.ref (b + 0), .null, .null]) ++ List.replicate (3 - (lg_sl ([.ref (b + 0), .null, .null])).length) Slot.unset).toArray = ls at hl ⊢
  have hl : lv_has ls 3 [(0, .ref (b + 0)), (1, .null), (2, .null)] := hl
  refine lv_aload_nN hx hb dX11_playedOut_0 rfl (lv_at hl 1 rfl) ?_
  refine lv_ifnullN (tgt := 8) hx hb dX11_playedOut_1 (by decide) ?_
  refine lv_iconst (v := 0) hx hb dX11_playedOut_8 (by decide) ?_
  exact W.zret (v := 0) hx hb hr (by decide) (fun t ht hW => gb_ri ht ⟨rfl, hP⟩ hS) hS.2.2 dX11_playedOut_9
theorem w_700 : (Cond.code ({ cls := "GooseBorder", name := "playedOut", desc := "(LGooseBorder$Border;LGooseBorder$Night;)Z" } : MethodName) prog_1_method_24_code (3 : Nat) (Option.some FieldType.boolean)) ∈ gb_wA := gb_t3 220 rfl rfl
theorem w_697 : (Cond.methodLink "GooseBorder" (195 : Nat) ({ cls := "GooseBorder", name := "playedOut", desc := "(LGooseBorder$Border;LGooseBorder$Night;)Z" } : MethodName)) ∈ gb_wA := gb_t3 217 rfl rfl
theorem w_699 : (Cond.instanceMethod ({ cls := "GooseBorder", name := "playedOut", desc := "(LGooseBorder$Border;LGooseBorder$Night;)Z" } : MethodName)) ∈ gb_wA := gb_t3 219 rfl rfl
theorem s_1_11 : Cond.selects "GooseBorder" (⟨"GooseBorder", "playedOut", "(LGooseBorder$Border;LGooseBorder$Night;)Z"⟩ : MethodName) (⟨"GooseBorder", "playedOut", "(LGooseBorder$Border;LGooseBorder$Night;)Z"⟩ : MethodName) ∈ gb_wA := gb_s1 11 rfl rfl
theorem dX11_stop_14 : decode cX11_stop 14 = .ok (.ifCond .eq 13, 3) := by decide +kernel
theorem dX11_stop_27 : decode cX11_stop 27 = .ok (.iconst (-1), 1) := by decide +kernel
theorem dX11_stop_28 : decode cX11_stop 28 = .ok (.ireturn, 1) := by decide +kernel
set_option maxHeartbeats 4000000 in
set_option maxRecDepth 100000 in
theorem a_X11_stop (l : Launch) (D : va_G) (cT : Nat → ClassId) (tt : Nat → Nat) (b1 b : Nat) (hb1 : b1 ≤ b) (p1 : Int32) (p2 : Int32) : Met l yX11_stop (.code yX11_stop cX11_stop 3 (some FieldType.int) :: gb_wA) ({ frames := 1, cells := 0, slots := 0, locals := 22 }) (gb_Pc D cT tt b1 [.ref (b + 0), .int p1, .int p2] (fun h => va_P D vwCl (gb_wl b (gb_C cT b)) h)) (gb_Qi (fun r _ => r = (-1)) (gb_fr b 135)) 0 0 (gb_fr b 135) := by
  refine Met.ofW (cc := cX11_stop) (maxL := 3) (ret := (some FieldType.int)) (by decide) rfl ?_
  intro p e s m args below meth c s₁ B hml hv
  obtain ⟨rfl, hSt, hP⟩ := hv
  have hx := B.exec
  have hb := B.bytes
  have hr := B.returns
  have hts := atoms_spec (ws := .code yX11_stop cX11_stop 3 (some FieldType.int) :: gb_wA) B.pre
  have hq : ∀ w ∈ gb_wA, w.before _ s = true := fun w h => hts w (List.mem_cons_of_mem _ h)
  have hown : s.vm.findClass RX11 = some m.cls := findClass_of_methodNamed B.named
  have hlocks := B.notSynchronized
  have hK := hSt.1
  have hS : va_S (gb_fr b 135) s.heap s.heap [] := va_S.rf
  have hl := lv_entry ([.ref (b + 0), .int p1, .int p2]) (n := 3) (Nat.le_of_ble_eq_true rfl)
  rw [lg_entry_eq]
  generalize (lg_sl ([.ref (b + 0), .int p1, .int p2]) ++ List.replicate (3 - (lg_sl ([.ref (b + 0), .int p1, .int p2])).length) Slot.unset).toArray = ls at hl ⊢
  have hl : lv_has ls 3 [(0, .ref (b + 0)), (1, .int p1), (2, .int p2)] := hl
  refine lv_aload_n hx hb dX11_stop_0 rfl (lv_at hl 0 rfl) ?_
  refine lv_aload_n hx hb dX11_stop_1 rfl (lv_at hl 0 rfl) ?_
  refine lv_iload_n hx hb dX11_stop_2 rfl (lv_at hl 1 rfl) ?_
  refine gb_callq (va_runV (C := RX11) (As := [.int p1]) (rest := [.ref (b + 0)]) ⟨hx, hb, hml, hown, hq⟩ (f_X11_borderAt l D cT tt b1 b hb1 p1) (cwV 1 hq (gb_gV w_593 w_595 s_1_7 w_1 w_596) rfl rfl rfl (by decide +kernel) ⟨Nat.le_of_ble_eq_true rfl, Nat.le_of_ble_eq_true rfl⟩) (gb_preV (r := (RX11, TX11, 10)) (ci := 9) (q0 := 0) hSt hP rfl (gb_at b rfl) hS (fun q h => Nat.le_trans hb1 h.1) hP) rfl rfl hl.1 rfl (lv_room (Nat.le_of_ble_eq_true rfl)) dX11_stop_3 ⟨Nat.le_of_ble_eq_true rfl, Nat.le_of_ble_eq_true rfl⟩) hS (fun _ h => h) (fun _ h => h) (fun r H locs hY hk hS => ?_)
  obtain ⟨hr9, hP⟩ := hY
  subst hr9
  refine W.eq (g2 := F0 m 6 ls [.null, .ref (b + 0)]) rfl ?_
  refine lv_aload_n hx hb dX11_stop_6 rfl (lv_at hl 0 rfl) ?_
  refine lv_iload_n hx hb dX11_stop_7 rfl (lv_at hl 2 rfl) ?_
  refine gb_callq (va_runV (C := RX11) (As := [.int p2]) (rest := [.null, .ref (b + 0)]) ⟨hx, hb, hml, hown, hq⟩ (f_X11_nightAt l D cT tt b1 b hb1 p2) (cwV 1 hq (gb_gV w_646 w_648 s_1_8 w_1 w_649) rfl rfl rfl (by decide +kernel) ⟨Nat.le_of_ble_eq_true rfl, Nat.le_of_ble_eq_true rfl⟩) (gb_preV (r := (RX11, TX11, 10)) (ci := 9) (q0 := 0) hSt hP rfl (gb_at b rfl) hS (fun q h => Nat.le_trans hb1 h.1) hP) rfl rfl hl.1 rfl (lv_room (Nat.le_of_ble_eq_true rfl)) dX11_stop_8 ⟨Nat.le_of_ble_eq_true rfl, Nat.le_of_ble_eq_true rfl⟩) hS (fun _ h => h) (fun _ h => h) (fun r H locs hY hk hS => ?_)
  obtain ⟨hr9, hP⟩ := hY
  subst hr9
  refine W.eq (g2 := F0 m 11 ls [.null, .null, .ref (b + 0)]) rfl ?_
  refine gb_calli (va_runV (C := RX11) (As := [.null, .null]) (rest := []) ⟨hx, hb, hml, hown, hq⟩ (f_X11_playedOut l D cT tt b1 b hb1) (cwV 2 hq (gb_gV w_697 w_699 s_1_11 w_1 w_700) rfl rfl rfl (by decide +kernel) ⟨Nat.le_of_ble_eq_true rfl, Nat.le_of_ble_eq_true rfl⟩) (gb_preV (r := (RX11, TX11, 10)) (ci := 9) (q0 := 0) hSt hP rfl (gb_at b rfl) hS (fun q h => Nat.le_trans hb1 h.1) hP) rfl rfl hl.1 rfl (lv_room (Nat.le_of_ble_eq_true rfl)) dX11_stop_11 ⟨Nat.le_of_ble_eq_true rfl, Nat.le_of_ble_eq_true rfl⟩) hS (fun _ h => h) (fun _ h => h) (fun r H locs hY hk hS => ?_)
  obtain ⟨hr9, hP⟩ := hY
  subst hr9
  refine lv_if_eq (tgt := 27) hx hb dX11_stop_14 (by decide) (fun _ => ?_) (fun hc => absurd (by decide) hc)
  refine lv_iconst (v := (-1)) hx hb dX11_stop_27 (by decide) ?_
  exact W.iret (v := (-1)) hx hb hr (fun t ht hW => gb_ri ht rfl hS) hS.2.2 dX11_stop_28
theorem dX11_goose_0 : decode cX11_goose 0 = .ok (.aload_n 0, 1) := by decide +kernel
theorem dX11_goose_1 : decode cX11_goose 1 = .ok (.iload_n 1, 1) := by decide +kernel
theorem dX11_goose_2 : decode cX11_goose 2 = .ok (.invokevirtual 113, 3) := by decide +kernel
theorem dX11_goose_5 : decode cX11_goose 5 = .ok (.astore 6, 2) := by decide +kernel
theorem dX11_goose_7 : decode cX11_goose 7 = .ok (.aload 6, 2) := by decide +kernel
theorem dX11_goose_9 : decode cX11_goose 9 = .ok (.ifnull 28, 3) := by decide +kernel
theorem dX11_goose_37 : decode cX11_goose 37 = .ok (.bipush (-2), 2) := by decide +kernel
theorem dX11_goose_39 : decode cX11_goose 39 = .ok (.ireturn, 1) := by decide +kernel
set_option maxHeartbeats 4000000 in
set_option maxRecDepth 100000 in
theorem a_X11_goose (l : Launch) (D : va_G) (cT : Nat → ClassId) (tt : Nat → Nat) (b1 b : Nat) (hb1 : b1 ≤ b) (p1 : Int32) (p2 : Int32) (p3 : Int32) (p4 : Int32) (p5 : Int32) : Met l yX11_goose (.code yX11_goose cX11_goose 7 (some FieldType.int) :: gb_wA) ({ frames := 1, cells := 0, slots := 0, locals := 21 }) (gb_Pc D cT tt b1 [.ref (b + 0), .int p1, .int p2, .int p3, .int p4, .int p5] (fun h => va_P D vwCl (gb_wl b (gb_C cT b)) h)) (gb_Qi (fun r _ => r = (-2)) (gb_fr b 135)) 0 0 (gb_fr b 135) := by
  refine Met.ofW (cc := cX11_goose) (maxL := 7) (ret := (some FieldType.int)) (by decide) rfl ?_
  intro p e s m args below meth c s₁ B hml hv
  obtain ⟨rfl, hSt, hP⟩ := hv
  have hx := B.exec
  have hb := B.bytes
  have hr := B.returns
  have hts := atoms_spec (ws := .code yX11_goose cX11_goose 7 (some FieldType.int) :: gb_wA) B.pre
  have hq : ∀ w ∈ gb_wA, w.before _ s = true := fun w h => hts w (List.mem_cons_of_mem _ h)
  have hown : s.vm.findClass RX11 = some m.cls := findClass_of_methodNamed B.named
  have hlocks := B.notSynchronized
  have hK := hSt.1
  have hS : va_S (gb_fr b 135) s.heap s.heap [] := va_S.rf
  have hl := lv_entry ([.ref (b + 0), .int p1, .int p2, .int p3, .int p4, .int p5]) (n := 7) (Nat.le_of_ble_eq_true rfl)
  rw [lg_entry_eq]
  generalize (lg_sl ([.ref (b + 0), .int p1, .int p2, .int p3, .int p4, .int p5]) ++ List.replicate (7 - (lg_sl ([.ref (b + 0), .int p1, .int p2, .int p3, .int p4, .int p5])).length) Slot.unset).toArray = ls at hl ⊢
  have hl : lv_has ls 7 [(0, .ref (b + 0)), (1, .int p1), (2, .int p2), (3, .int p3), (4, .int p4), (5, .int p5)] := hl
  refine lv_aload_n hx hb dX11_goose_0 rfl (lv_at hl 0 rfl) ?_
  refine lv_iload_n hx hb dX11_goose_1 rfl (lv_at hl 1 rfl) ?_
  refine gb_callq (va_runV (C := RX11) (As := [.int p1]) (rest := []) ⟨hx, hb, hml, hown, hq⟩ (f_X11_borderAt l D cT tt b1 b hb1 p1) (cwV 1 hq (gb_gV w_593 w_595 s_1_7 w_1 w_596) rfl rfl rfl (by decide +kernel) ⟨Nat.le_of_ble_eq_true rfl, Nat.le_of_ble_eq_true rfl⟩) (gb_preV (r := (RX11, TX11, 10)) (ci := 9) (q0 := 0) hSt hP rfl (gb_at b rfl) hS (fun q h => Nat.le_trans hb1 h.1) hP) rfl rfl hl.1 rfl (lv_room (Nat.le_of_ble_eq_true rfl)) dX11_goose_2 ⟨Nat.le_of_ble_eq_true rfl, Nat.le_of_ble_eq_true rfl⟩) hS (fun _ h => h) (fun _ h => h) (fun r H locs hY hk hS => ?_)
  obtain ⟨hr9, hP⟩ := hY
  subst hr9
  refine W.eq (g2 := F0 m 5 ls [.null]) rfl ?_
  refine lv_astoreN (lv' := [(6, .null), (0, .ref (b + 0)), (1, .int p1), (2, .int p2), (3, .int p3), (4, .int p4), (5, .int p5)]) hx hb dX11_goose_5 hl (by decide) rfl (fun ls hl => ?_)
  refine lv_aloadN hx hb dX11_goose_7 (lv_at hl 0 rfl) ?_
  refine lv_ifnullN (tgt := 37) hx hb dX11_goose_9 (by decide) ?_
  refine lv_bipush (v := (-2)) hx hb dX11_goose_37 (by decide) ?_
  exact W.iret (v := (-2)) hx hb hr (fun t ht hW => gb_ri ht rfl hS) hS.2.2 dX11_goose_39
theorem dX11_path_0 : decode cX11_path 0 = .ok (.aload_n 0, 1) := by decide +kernel
theorem dX11_path_1 : decode cX11_path 1 = .ok (.iload_n 1, 1) := by decide +kernel
theorem dX11_path_2 : decode cX11_path 2 = .ok (.invokevirtual 113, 3) := by decide +kernel
theorem dX11_path_5 : decode cX11_path 5 = .ok (.astore 6, 2) := by decide +kernel
theorem dX11_path_7 : decode cX11_path 7 = .ok (.aload 6, 2) := by decide +kernel
theorem dX11_path_9 : decode cX11_path 9 = .ok (.ifnull 28, 3) := by decide +kernel
theorem dX11_path_37 : decode cX11_path 37 = .ok (.bipush (-2), 2) := by decide +kernel
theorem dX11_path_39 : decode cX11_path 39 = .ok (.ireturn, 1) := by decide +kernel
set_option maxHeartbeats 4000000 in
set_option maxRecDepth 100000 in
theorem a_X11_path (l : Launch) (D : va_G) (cT : Nat → ClassId) (tt : Nat → Nat) (b1 b : Nat) (hb1 : b1 ≤ b) (p1 : Int32) (p2 : Int32) (p3 : Int32) (p4 : Int32) (p5 : Int32) : Met l yX11_path (.code yX11_path cX11_path 7 (some FieldType.int) :: gb_wA) ({ frames := 1, cells := 0, slots := 0, locals := 21 }) (gb_Pc D cT tt b1 [.ref (b + 0), .int p1, .int p2, .int p3, .int p4, .int p5] (fun h => va_P D vwCl (gb_wl b (gb_C cT b)) h)) (gb_Qi (fun r _ => r = (-2)) (gb_fr b 135)) 0 0 (gb_fr b 135) := by
  refine Met.ofW (cc := cX11_path) (maxL := 7) (ret := (some FieldType.int)) (by decide) rfl ?_
  intro p e s m args below meth c s₁ B hml hv
  obtain ⟨rfl, hSt, hP⟩ := hv
  have hx := B.exec
  have hb := B.bytes
  have hr := B.returns
  have hts := atoms_spec (ws := .code yX11_path cX11_path 7 (some FieldType.int) :: gb_wA) B.pre
  have hq : ∀ w ∈ gb_wA, w.before _ s = true := fun w h => hts w (List.mem_cons_of_mem _ h)
  have hown : s.vm.findClass RX11 = some m.cls := findClass_of_methodNamed B.named
  have hlocks := B.notSynchronized
  have hK := hSt.1
  have hS : va_S (gb_fr b 135) s.heap s.heap [] := va_S.rf
  have hl := lv_entry ([.ref (b + 0), .int p1, .int p2, .int p3, .int p4, .int p5]) (n := 7) (Nat.le_of_ble_eq_true rfl)
  rw [lg_entry_eq]
  generalize (lg_sl ([.ref (b + 0), .int p1, .int p2, .int p3, .int p4, .int p5]) ++ List.replicate (7 - (lg_sl ([.ref (b + 0), .int p1, .int p2, .int p3, .int p4, .int p5])).length) Slot.unset).toArray = ls at hl ⊢
  have hl : lv_has ls 7 [(0, .ref (b + 0)), (1, .int p1), (2, .int p2), (3, .int p3), (4, .int p4), (5, .int p5)] := hl
  refine lv_aload_n hx hb dX11_path_0 rfl (lv_at hl 0 rfl) ?_
  refine lv_iload_n hx hb dX11_path_1 rfl (lv_at hl 1 rfl) ?_
  refine gb_callq (va_runV (C := RX11) (As := [.int p1]) (rest := []) ⟨hx, hb, hml, hown, hq⟩ (f_X11_borderAt l D cT tt b1 b hb1 p1) (cwV 1 hq (gb_gV w_593 w_595 s_1_7 w_1 w_596) rfl rfl rfl (by decide +kernel) ⟨Nat.le_of_ble_eq_true rfl, Nat.le_of_ble_eq_true rfl⟩) (gb_preV (r := (RX11, TX11, 10)) (ci := 9) (q0 := 0) hSt hP rfl (gb_at b rfl) hS (fun q h => Nat.le_trans hb1 h.1) hP) rfl rfl hl.1 rfl (lv_room (Nat.le_of_ble_eq_true rfl)) dX11_path_2 ⟨Nat.le_of_ble_eq_true rfl, Nat.le_of_ble_eq_true rfl⟩) hS (fun _ h => h) (fun _ h => h) (fun r H locs hY hk hS => ?_)
  obtain ⟨hr9, hP⟩ := hY
  subst hr9
  refine W.eq (g2 := F0 m 5 ls [.null]) rfl ?_
  refine lv_astoreN (lv' := [(6, .null), (0, .ref (b + 0)), (1, .int p1), (2, .int p2), (3, .int p3), (4, .int p4), (5, .int p5)]) hx hb dX11_path_5 hl (by decide) rfl (fun ls hl => ?_)
  refine lv_aloadN hx hb dX11_path_7 (lv_at hl 0 rfl) ?_
  refine lv_ifnullN (tgt := 37) hx hb dX11_path_9 (by decide) ?_
  refine lv_bipush (v := (-2)) hx hb dX11_path_37 (by decide) ?_
  exact W.iret (v := (-2)) hx hb hr (fun t ht hW => gb_ri ht rfl hS) hS.2.2 dX11_path_39
theorem dX11_state_0 : decode cX11_state 0 = .ok (.aload_n 0, 1) := by decide +kernel
theorem dX11_state_1 : decode cX11_state 1 = .ok (.iload_n 1, 1) := by decide +kernel
theorem dX11_state_2 : decode cX11_state 2 = .ok (.invokevirtual 113, 3) := by decide +kernel
theorem dX11_state_5 : decode cX11_state 5 = .ok (.astore 5, 2) := by decide +kernel
theorem dX11_state_7 : decode cX11_state 7 = .ok (.aload 5, 2) := by decide +kernel
theorem dX11_state_9 : decode cX11_state 9 = .ok (.ifnull 18, 3) := by decide +kernel
theorem dX11_state_27 : decode cX11_state 27 = .ok (.bipush (-2), 2) := by decide +kernel
theorem dX11_state_29 : decode cX11_state 29 = .ok (.ireturn, 1) := by decide +kernel
set_option maxHeartbeats 4000000 in
set_option maxRecDepth 100000 in
theorem a_X11_state (l : Launch) (D : va_G) (cT : Nat → ClassId) (tt : Nat → Nat) (b1 b : Nat) (hb1 : b1 ≤ b) (p1 : Int32) (p2 : Int32) (p3 : Int32) (p4 : Int32) : Met l yX11_state (.code yX11_state cX11_state 6 (some FieldType.int) :: gb_wA) ({ frames := 1, cells := 0, slots := 0, locals := 21 }) (gb_Pc D cT tt b1 [.ref (b + 0), .int p1, .int p2, .int p3, .int p4] (fun h => va_P D vwCl (gb_wl b (gb_C cT b)) h)) (gb_Qi (fun r _ => r = (-2)) (gb_fr b 135)) 0 0 (gb_fr b 135) := by
  refine Met.ofW (cc := cX11_state) (maxL := 6) (ret := (some FieldType.int)) (by decide) rfl ?_
  intro p e s m args below meth c s₁ B hml hv
  obtain ⟨rfl, hSt, hP⟩ := hv
  have hx := B.exec
  have hb := B.bytes
  have hr := B.returns
  have hts := atoms_spec (ws := .code yX11_state cX11_state 6 (some FieldType.int) :: gb_wA) B.pre
  have hq : ∀ w ∈ gb_wA, w.before _ s = true := fun w h => hts w (List.mem_cons_of_mem _ h)
  have hown : s.vm.findClass RX11 = some m.cls := findClass_of_methodNamed B.named
  have hlocks := B.notSynchronized
  have hK := hSt.1
  have hS : va_S (gb_fr b 135) s.heap s.heap [] := va_S.rf
  have hl := lv_entry ([.ref (b + 0), .int p1, .int p2, .int p3, .int p4]) (n := 6) (Nat.le_of_ble_eq_true rfl)
  rw [lg_entry_eq]
  generalize (lg_sl ([.ref (b + 0), .int p1, .int p2, .int p3, .int p4]) ++ List.replicate (6 - (lg_sl ([.ref (b + 0), .int p1, .int p2, .int p3, .int p4])).length) Slot.unset).toArray = ls at hl ⊢
  have hl : lv_has ls 6 [(0, .ref (b + 0)), (1, .int p1), (2, .int p2), (3, .int p3), (4, .int p4)] := hl
  refine lv_aload_n hx hb dX11_state_0 rfl (lv_at hl 0 rfl) ?_
  refine lv_iload_n hx hb dX11_state_1 rfl (lv_at hl 1 rfl) ?_
  refine gb_callq (va_runV (C := RX11) (As := [.int p1]) (rest := []) ⟨hx, hb, hml, hown, hq⟩ (f_X11_borderAt l D cT tt b1 b hb1 p1) (cwV 1 hq (gb_gV w_593 w_595 s_1_7 w_1 w_596) rfl rfl rfl (by decide +kernel) ⟨Nat.le_of_ble_eq_true rfl, Nat.le_of_ble_eq_true rfl⟩) (gb_preV (r := (RX11, TX11, 10)) (ci := 9) (q0 := 0) hSt hP rfl (gb_at b rfl) hS (fun q h => Nat.le_trans hb1 h.1) hP) rfl rfl hl.1 rfl (lv_room (Nat.le_of_ble_eq_true rfl)) dX11_state_2 ⟨Nat.le_of_ble_eq_true rfl, Nat.le_of_ble_eq_true rfl⟩) hS (fun _ h => h) (fun _ h => h) (fun r H locs hY hk hS => ?_)
  obtain ⟨hr9, hP⟩ := hY
  subst hr9
  refine W.eq (g2 := F0 m 5 ls [.null]) rfl ?_
  refine lv_astoreN (lv' := [(5, .null), (0, .ref (b + 0)), (1, .int p1), (2, .int p2), (3, .int p3), (4, .int p4)]) hx hb dX11_state_5 hl (by decide) rfl (fun ls hl => ?_)
  refine lv_aloadN hx hb dX11_state_7 (lv_at hl 0 rfl) ?_
  refine lv_ifnullN (tgt := 27) hx hb dX11_state_9 (by decide) ?_
  refine lv_bipush (v := (-2)) hx hb dX11_state_27 (by decide) ?_
  exact W.iret (v := (-2)) hx hb hr (fun t ht hW => gb_ri ht rfl hS) hS.2.2 dX11_state_29
theorem dX11_rest_0 : decode cX11_rest 0 = .ok (.aload_n 0, 1) := by decide +kernel
theorem dX11_rest_1 : decode cX11_rest 1 = .ok (.iload_n 1, 1) := by decide +kernel
theorem dX11_rest_2 : decode cX11_rest 2 = .ok (.invokevirtual 113, 3) := by decide +kernel
theorem dX11_rest_5 : decode cX11_rest 5 = .ok (.astore 4, 2) := by decide +kernel
theorem dX11_rest_7 : decode cX11_rest 7 = .ok (.iload_n 3, 1) := by decide +kernel
theorem dX11_rest_8 : decode cX11_rest 8 = .ok (.iconst (-1), 1) := by decide +kernel
theorem dX11_rest_9 : decode cX11_rest 9 = .ok (.if_icmp .lt 22, 3) := by decide +kernel
theorem dX11_rest_31 : decode cX11_rest 31 = .ok (.bipush (-2), 2) := by decide +kernel
theorem dX11_rest_33 : decode cX11_rest 33 = .ok (.ireturn, 1) := by decide +kernel
theorem dX11_rest_12 : decode cX11_rest 12 = .ok (.aload 4, 2) := by decide +kernel
theorem dX11_rest_14 : decode cX11_rest 14 = .ok (.ifnull 17, 3) := by decide +kernel
set_option maxHeartbeats 4000000 in
set_option maxRecDepth 100000 in
theorem a_X11_rest (l : Launch) (D : va_G) (cT : Nat → ClassId) (tt : Nat → Nat) (b1 b : Nat) (hb1 : b1 ≤ b) (p1 : Int32) (p2 : Int32) (p3 : Int32) : Met l yX11_rest (.code yX11_rest cX11_rest 8 (some FieldType.int) :: gb_wA) ({ frames := 1, cells := 0, slots := 0, locals := 21 }) (gb_Pc D cT tt b1 [.ref (b + 0), .int p1, .int p2, .int p3] (fun h => va_P D vwCl (gb_wl b (gb_C cT b)) h)) (gb_Qi (fun r _ => r = (-2)) (gb_fr b 135)) 0 0 (gb_fr b 135) := by
  refine Met.ofW (cc := cX11_rest) (maxL := 8) (ret := (some FieldType.int)) (by decide) rfl ?_
  intro p e s m args below meth c s₁ B hml hv
  obtain ⟨rfl, hSt, hP⟩ := hv
  have hx := B.exec
  have hb := B.bytes
  have hr := B.returns
  have hts := atoms_spec (ws := .code yX11_rest cX11_rest 8 (some FieldType.int) :: gb_wA) B.pre
  have hq : ∀ w ∈ gb_wA, w.before _ s = true := fun w h => hts w (List.mem_cons_of_mem _ h)
  have hown : s.vm.findClass RX11 = some m.cls := findClass_of_methodNamed B.named
  have hlocks := B.notSynchronized
  have hK := hSt.1
  have hS : va_S (gb_fr b 135) s.heap s.heap [] := va_S.rf
  have hl := lv_entry ([.ref (b + 0), .int p1, .int p2, .int p3]) (n := 8) (Nat.le_of_ble_eq_true rfl)
  rw [lg_entry_eq]
  generalize (lg_sl ([.ref (b + 0), .int p1, .int p2, .int p3]) ++ List.replicate (8 - (lg_sl ([.ref (b + 0), .int p1, .int p2, .int p3])).length) Slot.unset).toArray = ls at hl ⊢
  have hl : lv_has ls 8 [(0, .ref (b + 0)), (1, .int p1), (2, .int p2), (3, .int p3)] := hl
  refine lv_aload_n hx hb dX11_rest_0 rfl (lv_at hl 0 rfl) ?_
  refine lv_iload_n hx hb dX11_rest_1 rfl (lv_at hl 1 rfl) ?_
  refine gb_callq (va_runV (C := RX11) (As := [.int p1]) (rest := []) ⟨hx, hb, hml, hown, hq⟩ (f_X11_borderAt l D cT tt b1 b hb1 p1) (cwV 1 hq (gb_gV w_593 w_595 s_1_7 w_1 w_596) rfl rfl rfl (by decide +kernel) ⟨Nat.le_of_ble_eq_true rfl, Nat.le_of_ble_eq_true rfl⟩) (gb_preV (r := (RX11, TX11, 10)) (ci := 9) (q0 := 0) hSt hP rfl (gb_at b rfl) hS (fun q h => Nat.le_trans hb1 h.1) hP) rfl rfl hl.1 rfl (lv_room (Nat.le_of_ble_eq_true rfl)) dX11_rest_2 ⟨Nat.le_of_ble_eq_true rfl, Nat.le_of_ble_eq_true rfl⟩) hS (fun _ h => h) (fun _ h => h) (fun r H locs hY hk hS => ?_)
  obtain ⟨hr9, hP⟩ := hY
  subst hr9
  refine W.eq (g2 := F0 m 5 ls [.null]) rfl ?_
  refine lv_astoreN (lv' := [(4, .null), (0, .ref (b + 0)), (1, .int p1), (2, .int p2), (3, .int p3)]) hx hb dX11_rest_5 hl (by decide) rfl (fun ls hl => ?_)
  refine lv_iload_n hx hb dX11_rest_7 rfl (lv_at hl 4 rfl) ?_
  refine lv_iconst (v := (-1)) hx hb dX11_rest_8 (by decide) ?_
  refine lv_icmp_lt (tgt := 31) hx hb dX11_rest_9 (by decide) (fun c_9 => ?_) (fun c_9 => ?_)
  · refine lv_bipush (v := (-2)) hx hb dX11_rest_31 (by decide) ?_
    exact W.iret (v := (-2)) hx hb hr (fun t ht hW => gb_ri ht rfl hS) hS.2.2 dX11_rest_33
  · refine lv_aloadN hx hb dX11_rest_12 (lv_at hl 0 rfl) ?_
    refine lv_ifnullN (tgt := 31) hx hb dX11_rest_14 (by decide) ?_
    refine lv_bipush (v := (-2)) hx hb dX11_rest_31 (by decide) ?_
    exact W.iret (v := (-2)) hx hb hr (fun t ht hW => gb_ri ht rfl hS) hS.2.2 dX11_rest_33
theorem dX11_take_0 : decode cX11_take 0 = .ok (.aload_n 0, 1) := by decide +kernel
theorem dX11_take_1 : decode cX11_take 1 = .ok (.iload_n 1, 1) := by decide +kernel
theorem dX11_take_2 : decode cX11_take 2 = .ok (.invokevirtual 113, 3) := by decide +kernel
theorem dX11_take_5 : decode cX11_take 5 = .ok (.astore 5, 2) := by decide +kernel
theorem dX11_take_7 : decode cX11_take 7 = .ok (.aload 5, 2) := by decide +kernel
theorem dX11_take_9 : decode cX11_take 9 = .ok (.ifnull 28, 3) := by decide +kernel
theorem dX11_take_37 : decode cX11_take 37 = .ok (.iconst (-1), 1) := by decide +kernel
theorem dX11_take_38 : decode cX11_take 38 = .ok (.ireturn, 1) := by decide +kernel
set_option maxHeartbeats 4000000 in
set_option maxRecDepth 100000 in
theorem a_X11_take (l : Launch) (D : va_G) (cT : Nat → ClassId) (tt : Nat → Nat) (b1 b : Nat) (hb1 : b1 ≤ b) (p1 : Int32) (p2 : Int32) (p3 : Int32) (p4 : Int32) : Met l yX11_take (.code yX11_take cX11_take 6 (some FieldType.int) :: gb_wA) ({ frames := 1, cells := 0, slots := 0, locals := 21 }) (gb_Pc D cT tt b1 [.ref (b + 0), .int p1, .int p2, .int p3, .int p4] (fun h => va_P D vwCl (gb_wl b (gb_C cT b)) h)) (gb_Qi (fun r _ => r = (-1)) (gb_fr b 135)) 0 0 (gb_fr b 135) := by
  refine Met.ofW (cc := cX11_take) (maxL := 6) (ret := (some FieldType.int)) (by decide) rfl ?_
  intro p e s m args below meth c s₁ B hml hv
  obtain ⟨rfl, hSt, hP⟩ := hv
  have hx := B.exec
  have hb := B.bytes
  have hr := B.returns
  have hts := atoms_spec (ws := .code yX11_take cX11_take 6 (some FieldType.int) :: gb_wA) B.pre
  have hq : ∀ w ∈ gb_wA, w.before _ s = true := fun w h => hts w (List.mem_cons_of_mem _ h)
  have hown : s.vm.findClass RX11 = some m.cls := findClass_of_methodNamed B.named
  have hlocks := B.notSynchronized
  have hK := hSt.1
  have hS : va_S (gb_fr b 135) s.heap s.heap [] := va_S.rf
  have hl := lv_entry ([.ref (b + 0), .int p1, .int p2, .int p3, .int p4]) (n := 6) (Nat.le_of_ble_eq_true rfl)
  rw [lg_entry_eq]
  generalize (lg_sl ([.ref (b + 0), .int p1, .int p2, .int p3, .int p4]) ++ List.replicate (6 - (lg_sl ([.ref (b + 0), .int p1, .int p2, .int p3, .int p4])).length) Slot.unset).toArray = ls at hl ⊢
  have hl : lv_has ls 6 [(0, .ref (b + 0)), (1, .int p1), (2, .int p2), (3, .int p3), (4, .int p4)] := hl
  refine lv_aload_n hx hb dX11_take_0 rfl (lv_at hl 0 rfl) ?_
  refine lv_iload_n hx hb dX11_take_1 rfl (lv_at hl 1 rfl) ?_
  refine gb_callq (va_runV (C := RX11) (As := [.int p1]) (rest := []) ⟨hx, hb, hml, hown, hq⟩ (f_X11_borderAt l D cT tt b1 b hb1 p1) (cwV 1 hq (gb_gV w_593 w_595 s_1_7 w_1 w_596) rfl rfl rfl (by decide +kernel) ⟨Nat.le_of_ble_eq_true rfl, Nat.le_of_ble_eq_true rfl⟩) (gb_preV (r := (RX11, TX11, 10)) (ci := 9) (q0 := 0) hSt hP rfl (gb_at b rfl) hS (fun q h => Nat.le_trans hb1 h.1) hP) rfl rfl hl.1 rfl (lv_room (Nat.le_of_ble_eq_true rfl)) dX11_take_2 ⟨Nat.le_of_ble_eq_true rfl, Nat.le_of_ble_eq_true rfl⟩) hS (fun _ h => h) (fun _ h => h) (fun r H locs hY hk hS => ?_)
  obtain ⟨hr9, hP⟩ := hY
  subst hr9
  refine W.eq (g2 := F0 m 5 ls [.null]) rfl ?_
  refine lv_astoreN (lv' := [(5, .null), (0, .ref (b + 0)), (1, .int p1), (2, .int p2), (3, .int p3), (4, .int p4)]) hx hb dX11_take_5 hl (by decide) rfl (fun ls hl => ?_)
  refine lv_aloadN hx hb dX11_take_7 (lv_at hl 0 rfl) ?_
  refine lv_ifnullN (tgt := 37) hx hb dX11_take_9 (by decide) ?_
  refine lv_iconst (v := (-1)) hx hb dX11_take_37 (by decide) ?_
  exact W.iret (v := (-1)) hx hb hr (fun t ht hW => gb_ri ht rfl hS) hS.2.2 dX11_take_38
theorem dX11_honest_0 : decode cX11_honest 0 = .ok (.aload_n 0, 1) := by decide +kernel
theorem dX11_honest_1 : decode cX11_honest 1 = .ok (.iload_n 1, 1) := by decide +kernel
theorem dX11_honest_2 : decode cX11_honest 2 = .ok (.invokevirtual 113, 3) := by decide +kernel
theorem dX11_honest_5 : decode cX11_honest 5 = .ok (.astore 4, 2) := by decide +kernel
theorem dX11_honest_7 : decode cX11_honest 7 = .ok (.aload 4, 2) := by decide +kernel
theorem dX11_honest_9 : decode cX11_honest 9 = .ok (.ifnull 26, 3) := by decide +kernel
theorem dX11_honest_35 : decode cX11_honest 35 = .ok (.iconst (-1), 1) := by decide +kernel
theorem dX11_honest_36 : decode cX11_honest 36 = .ok (.ireturn, 1) := by decide +kernel
set_option maxHeartbeats 4000000 in
set_option maxRecDepth 100000 in
theorem a_X11_honest (l : Launch) (D : va_G) (cT : Nat → ClassId) (tt : Nat → Nat) (b1 b : Nat) (hb1 : b1 ≤ b) (p1 : Int32) (p2 : Int32) (p3 : Int32) : Met l yX11_honest (.code yX11_honest cX11_honest 6 (some FieldType.int) :: gb_wA) ({ frames := 1, cells := 0, slots := 0, locals := 21 }) (gb_Pc D cT tt b1 [.ref (b + 0), .int p1, .int p2, .int p3] (fun h => va_P D vwCl (gb_wl b (gb_C cT b)) h)) (gb_Qi (fun r _ => r = (-1)) (gb_fr b 135)) 0 0 (gb_fr b 135) := by
  refine Met.ofW (cc := cX11_honest) (maxL := 6) (ret := (some FieldType.int)) (by decide) rfl ?_
  intro p e s m args below meth c s₁ B hml hv
  obtain ⟨rfl, hSt, hP⟩ := hv
  have hx := B.exec
  have hb := B.bytes
  have hr := B.returns
  have hts := atoms_spec (ws := .code yX11_honest cX11_honest 6 (some FieldType.int) :: gb_wA) B.pre
  have hq : ∀ w ∈ gb_wA, w.before _ s = true := fun w h => hts w (List.mem_cons_of_mem _ h)
  have hown : s.vm.findClass RX11 = some m.cls := findClass_of_methodNamed B.named
  have hlocks := B.notSynchronized
  have hK := hSt.1
  have hS : va_S (gb_fr b 135) s.heap s.heap [] := va_S.rf
  have hl := lv_entry ([.ref (b + 0), .int p1, .int p2, .int p3]) (n := 6) (Nat.le_of_ble_eq_true rfl)
  rw [lg_entry_eq]
  generalize (lg_sl ([.ref (b + 0), .int p1, .int p2, .int p3]) ++ List.replicate (6 - (lg_sl ([.ref (b + 0), .int p1, .int p2, .int p3])).length) Slot.unset).toArray = ls at hl ⊢
  have hl : lv_has ls 6 [(0, .ref (b + 0)), (1, .int p1), (2, .int p2), (3, .int p3)] := hl
  refine lv_aload_n hx hb dX11_honest_0 rfl (lv_at hl 0 rfl) ?_
  refine lv_iload_n hx hb dX11_honest_1 rfl (lv_at hl 1 rfl) ?_
  refine gb_callq (va_runV (C := RX11) (As := [.int p1]) (rest := []) ⟨hx, hb, hml, hown, hq⟩ (f_X11_borderAt l D cT tt b1 b hb1 p1) (cwV 1 hq (gb_gV w_593 w_595 s_1_7 w_1 w_596) rfl rfl rfl (by decide +kernel) ⟨Nat.le_of_ble_eq_true rfl, Nat.le_of_ble_eq_true rfl⟩) (gb_preV (r := (RX11, TX11, 10)) (ci := 9) (q0 := 0) hSt hP rfl (gb_at b rfl) hS (fun q h => Nat.le_trans hb1 h.1) hP) rfl rfl hl.1 rfl (lv_room (Nat.le_of_ble_eq_true rfl)) dX11_honest_2 ⟨Nat.le_of_ble_eq_true rfl, Nat.le_of_ble_eq_true rfl⟩) hS (fun _ h => h) (fun _ h => h) (fun r H locs hY hk hS => ?_)
  obtain ⟨hr9, hP⟩ := hY
  subst hr9
  refine W.eq (g2 := F0 m 5 ls [.null]) rfl ?_
  refine lv_astoreN (lv' := [(4, .null), (0, .ref (b + 0)), (1, .int p1), (2, .int p2), (3, .int p3)]) hx hb dX11_honest_5 hl (by decide) rfl (fun ls hl => ?_)
  refine lv_aloadN hx hb dX11_honest_7 (lv_at hl 0 rfl) ?_
  refine lv_ifnullN (tgt := 35) hx hb dX11_honest_9 (by decide) ?_
  refine lv_iconst (v := (-1)) hx hb dX11_honest_35 (by decide) ?_
  exact W.iret (v := (-1)) hx hb hr (fun t ht hW => gb_ri ht rfl hS) hS.2.2 dX11_honest_36
theorem dX11_lacks_0 : decode cX11_lacks 0 = .ok (.aload_n 0, 1) := by decide +kernel
theorem dX11_lacks_1 : decode cX11_lacks 1 = .ok (.iload_n 1, 1) := by decide +kernel
theorem dX11_lacks_2 : decode cX11_lacks 2 = .ok (.invokevirtual 113, 3) := by decide +kernel
theorem dX11_lacks_5 : decode cX11_lacks 5 = .ok (.astore 4, 2) := by decide +kernel
theorem dX11_lacks_7 : decode cX11_lacks 7 = .ok (.aload_n 0, 1) := by decide +kernel
theorem dX11_lacks_8 : decode cX11_lacks 8 = .ok (.iload_n 3, 1) := by decide +kernel
theorem dX11_lacks_9 : decode cX11_lacks 9 = .ok (.invokevirtual 160, 3) := by decide +kernel
theorem dX11_lacks_12 : decode cX11_lacks 12 = .ok (.astore 5, 2) := by decide +kernel
theorem dX11_lacks_14 : decode cX11_lacks 14 = .ok (.aload 4, 2) := by decide +kernel
theorem dX11_lacks_16 : decode cX11_lacks 16 = .ok (.ifnull 22, 3) := by decide +kernel
theorem dX11_lacks_38 : decode cX11_lacks 38 = .ok (.iconst (-1), 1) := by decide +kernel
theorem dX11_lacks_39 : decode cX11_lacks 39 = .ok (.ireturn, 1) := by decide +kernel
set_option maxHeartbeats 4000000 in
set_option maxRecDepth 100000 in
theorem a_X11_lacks (l : Launch) (D : va_G) (cT : Nat → ClassId) (tt : Nat → Nat) (b1 b : Nat) (hb1 : b1 ≤ b) (p1 : Int32) (p2 : Int32) (p3 : Int32) : Met l yX11_lacks (.code yX11_lacks cX11_lacks 8 (some FieldType.int) :: gb_wA) ({ frames := 1, cells := 0, slots := 0, locals := 21 }) (gb_Pc D cT tt b1 [.ref (b + 0), .int p1, .int p2, .int p3] (fun h => va_P D vwCl (gb_wl b (gb_C cT b)) h)) (gb_Qi (fun r _ => r = (-1)) (gb_fr b 135)) 0 0 (gb_fr b 135) := by
  refine Met.ofW (cc := cX11_lacks) (maxL := 8) (ret := (some FieldType.int)) (by decide) rfl ?_
  intro p e s m args below meth c s₁ B hml hv
  obtain ⟨rfl, hSt, hP⟩ := hv
  have hx := B.exec
  have hb := B.bytes
  have hr := B.returns
  have hts := atoms_spec (ws := .code yX11_lacks cX11_lacks 8 (some FieldType.int) :: gb_wA) B.pre
  have hq : ∀ w ∈ gb_wA, w.before _ s = true := fun w h => hts w (List.mem_cons_of_mem _ h)
  have hown : s.vm.findClass RX11 = some m.cls := findClass_of_methodNamed B.named
  have hlocks := B.notSynchronized
  have hK := hSt.1
  have hS : va_S (gb_fr b 135) s.heap s.heap [] := va_S.rf
  have hl := lv_entry ([.ref (b + 0), .int p1, .int p2, .int p3]) (n := 8) (Nat.le_of_ble_eq_true rfl)
  rw [lg_entry_eq]
  generalize (lg_sl ([.ref (b + 0), .int p1, .int p2, .int p3]) ++ List.replicate (8 - (lg_sl ([.ref (b + 0), .int p1, .int p2, .int p3])).length) Slot.unset).toArray = ls at hl ⊢
  have hl : lv_has ls 8 [(0, .ref (b + 0)), (1, .int p1), (2, .int p2), (3, .int p3)] := hl
  refine lv_aload_n hx hb dX11_lacks_0 rfl (lv_at hl 0 rfl) ?_
  refine lv_iload_n hx hb dX11_lacks_1 rfl (lv_at hl 1 rfl) ?_
  refine gb_callq (va_runV (C := RX11) (As := [.int p1]) (rest := []) ⟨hx, hb, hml, hown, hq⟩ (f_X11_borderAt l D cT tt b1 b hb1 p1) (cwV 1 hq (gb_gV w_593 w_595 s_1_7 w_1 w_596) rfl rfl rfl (by decide +kernel) ⟨Nat.le_of_ble_eq_true rfl, Nat.le_of_ble_eq_true rfl⟩) (gb_preV (r := (RX11, TX11, 10)) (ci := 9) (q0 := 0) hSt hP rfl (gb_at b rfl) hS (fun q h => Nat.le_trans hb1 h.1) hP) rfl rfl hl.1 rfl (lv_room (Nat.le_of_ble_eq_true rfl)) dX11_lacks_2 ⟨Nat.le_of_ble_eq_true rfl, Nat.le_of_ble_eq_true rfl⟩) hS (fun _ h => h) (fun _ h => h) (fun r H locs hY hk hS => ?_)
  obtain ⟨hr9, hP⟩ := hY
  subst hr9
  refine W.eq (g2 := F0 m 5 ls [.null]) rfl ?_
  refine lv_astoreN (lv' := [(4, .null), (0, .ref (b + 0)), (1, .int p1), (2, .int p2), (3, .int p3)]) hx hb dX11_lacks_5 hl (by decide) rfl (fun ls hl => ?_)
  refine lv_aload_n hx hb dX11_lacks_7 rfl (lv_at hl 1 rfl) ?_
  refine lv_iload_n hx hb dX11_lacks_8 rfl (lv_at hl 4 rfl) ?_
  refine gb_callq (va_runV (C := RX11) (As := [.int p3]) (rest := []) ⟨hx, hb, hml, hown, hq⟩ (f_X11_dawnAt l D cT tt b1 b hb1 p3) (cwV 1 hq (gb_gV w_667 w_669 s_1_10 w_1 w_670) rfl rfl rfl (by decide +kernel) ⟨Nat.le_of_ble_eq_true rfl, Nat.le_of_ble_eq_true rfl⟩) (gb_preV (r := (RX11, TX11, 10)) (ci := 9) (q0 := 0) hSt hP rfl (gb_at b rfl) hS (fun q h => Nat.le_trans hb1 h.1) hP) rfl rfl hl.1 rfl (lv_room (Nat.le_of_ble_eq_true rfl)) dX11_lacks_9 ⟨Nat.le_of_ble_eq_true rfl, Nat.le_of_ble_eq_true rfl⟩) hS (fun _ h => h) (fun _ h => h) (fun r H locs hY hk hS => ?_)
  obtain ⟨hr9, hP⟩ := hY
  subst hr9
  refine W.eq (g2 := F0 m 12 ls [.null]) rfl ?_
  refine lv_astoreN (lv' := [(5, .null), (4, .null), (0, .ref (b + 0)), (1, .int p1), (2, .int p2), (3, .int p3)]) hx hb dX11_lacks_12 hl (by decide) rfl (fun ls hl => ?_)
  refine lv_aloadN hx hb dX11_lacks_14 (lv_at hl 1 rfl) ?_
  refine lv_ifnullN (tgt := 38) hx hb dX11_lacks_16 (by decide) ?_
  refine lv_iconst (v := (-1)) hx hb dX11_lacks_38 (by decide) ?_
  exact W.iret (v := (-1)) hx hb hr (fun t ht hW => gb_ri ht rfl hS) hS.2.2 dX11_lacks_39
theorem dX11_who_0 : decode cX11_who 0 = .ok (.aload_n 0, 1) := by decide +kernel
theorem dX11_who_1 : decode cX11_who 1 = .ok (.iload_n 1, 1) := by decide +kernel
theorem dX11_who_2 : decode cX11_who 2 = .ok (.invokevirtual 113, 3) := by decide +kernel
theorem dX11_who_5 : decode cX11_who 5 = .ok (.astore 5, 2) := by decide +kernel
theorem dX11_who_7 : decode cX11_who 7 = .ok (.aload_n 0, 1) := by decide +kernel
theorem dX11_who_8 : decode cX11_who 8 = .ok (.iload_n 2, 1) := by decide +kernel
theorem dX11_who_9 : decode cX11_who 9 = .ok (.invokevirtual 148, 3) := by decide +kernel
theorem dX11_who_12 : decode cX11_who 12 = .ok (.astore 6, 2) := by decide +kernel
theorem dX11_who_14 : decode cX11_who 14 = .ok (.aload 5, 2) := by decide +kernel
theorem dX11_who_16 : decode cX11_who 16 = .ok (.ifnull 28, 3) := by decide +kernel
theorem dX11_who_44 : decode cX11_who 44 = .ok (.iconst (-1), 1) := by decide +kernel
theorem dX11_who_45 : decode cX11_who 45 = .ok (.ireturn, 1) := by decide +kernel
set_option maxHeartbeats 4000000 in
set_option maxRecDepth 100000 in
theorem a_X11_who (l : Launch) (D : va_G) (cT : Nat → ClassId) (tt : Nat → Nat) (b1 b : Nat) (hb1 : b1 ≤ b) (p1 : Int32) (p2 : Int32) (p3 : Int32) (p4 : Int32) : Met l yX11_who (.code yX11_who cX11_who 9 (some FieldType.int) :: gb_wA) ({ frames := 1, cells := 0, slots := 0, locals := 21 }) (gb_Pc D cT tt b1 [.ref (b + 0), .int p1, .int p2, .int p3, .int p4] (fun h => va_P D vwCl (gb_wl b (gb_C cT b)) h)) (gb_Qi (fun r _ => r = (-1)) (gb_fr b 135)) 0 0 (gb_fr b 135) := by
  refine Met.ofW (cc := cX11_who) (maxL := 9) (ret := (some FieldType.int)) (by decide) rfl ?_
  intro p e s m args below meth c s₁ B hml hv
  obtain ⟨rfl, hSt, hP⟩ := hv
  have hx := B.exec
  have hb := B.bytes
  have hr := B.returns
  have hts := atoms_spec (ws := .code yX11_who cX11_who 9 (some FieldType.int) :: gb_wA) B.pre
  have hq : ∀ w ∈ gb_wA, w.before _ s = true := fun w h => hts w (List.mem_cons_of_mem _ h)
  have hown : s.vm.findClass RX11 = some m.cls := findClass_of_methodNamed B.named
  have hlocks := B.notSynchronized
  have hK := hSt.1
  have hS : va_S (gb_fr b 135) s.heap s.heap [] := va_S.rf
  have hl := lv_entry ([.ref (b + 0), .int p1, .int p2, .int p3, .int p4]) (n := 9) (Nat.le_of_ble_eq_true rfl)
  rw [lg_entry_eq]
  generalize (lg_sl ([.ref (b + 0), .int p1, .int p2, .int p3, .int p4]) ++ List.replicate (9 - (lg_sl ([.ref (b + 0), .int p1, .int p2, .int p3, .int p4])).length) Slot.unset).toArray = ls at hl ⊢
  have hl : lv_has ls 9 [(0, .ref (b + 0)), (1, .int p1), (2, .int p2), (3, .int p3), (4, .int p4)] := hl
  refine lv_aload_n hx hb dX11_who_0 rfl (lv_at hl 0 rfl) ?_
  refine lv_iload_n hx hb dX11_who_1 rfl (lv_at hl 1 rfl) ?_
  refine gb_callq (va_runV (C := RX11) (As := [.int p1]) (rest := []) ⟨hx, hb, hml, hown, hq⟩ (f_X11_borderAt l D cT tt b1 b hb1 p1) (cwV 1 hq (gb_gV w_593 w_595 s_1_7 w_1 w_596) rfl rfl rfl (by decide +kernel) ⟨Nat.le_of_ble_eq_true rfl, Nat.le_of_ble_eq_true rfl⟩) (gb_preV (r := (RX11, TX11, 10)) (ci := 9) (q0 := 0) hSt hP rfl (gb_at b rfl) hS (fun q h => Nat.le_trans hb1 h.1) hP) rfl rfl hl.1 rfl (lv_room (Nat.le_of_ble_eq_true rfl)) dX11_who_2 ⟨Nat.le_of_ble_eq_true rfl, Nat.le_of_ble_eq_true rfl⟩) hS (fun _ h => h) (fun _ h => h) (fun r H locs hY hk hS => ?_)
  obtain ⟨hr9, hP⟩ := hY
  subst hr9
  refine W.eq (g2 := F0 m 5 ls [.null]) rfl ?_
  refine lv_astoreN (lv' := [(5, .null), (0, .ref (b + 0)), (1, .int p1), (2, .int p2), (3, .int p3), (4, .int p4)]) hx hb dX11_who_5 hl (by decide) rfl (fun ls hl => ?_)
  refine lv_aload_n hx hb dX11_who_7 rfl (lv_at hl 1 rfl) ?_
  refine lv_iload_n hx hb dX11_who_8 rfl (lv_at hl 3 rfl) ?_
  refine gb_callq (va_runV (C := RX11) (As := [.int p2]) (rest := []) ⟨hx, hb, hml, hown, hq⟩ (f_X11_nightAt l D cT tt b1 b hb1 p2) (cwV 1 hq (gb_gV w_646 w_648 s_1_8 w_1 w_649) rfl rfl rfl (by decide +kernel) ⟨Nat.le_of_ble_eq_true rfl, Nat.le_of_ble_eq_true rfl⟩) (gb_preV (r := (RX11, TX11, 10)) (ci := 9) (q0 := 0) hSt hP rfl (gb_at b rfl) hS (fun q h => Nat.le_trans hb1 h.1) hP) rfl rfl hl.1 rfl (lv_room (Nat.le_of_ble_eq_true rfl)) dX11_who_9 ⟨Nat.le_of_ble_eq_true rfl, Nat.le_of_ble_eq_true rfl⟩) hS (fun _ h => h) (fun _ h => h) (fun r H locs hY hk hS => ?_)
  obtain ⟨hr9, hP⟩ := hY
  subst hr9
  refine W.eq (g2 := F0 m 12 ls [.null]) rfl ?_
  refine lv_astoreN (lv' := [(6, .null), (5, .null), (0, .ref (b + 0)), (1, .int p1), (2, .int p2), (3, .int p3), (4, .int p4)]) hx hb dX11_who_12 hl (by decide) rfl (fun ls hl => ?_)
  refine lv_aloadN hx hb dX11_who_14 (lv_at hl 1 rfl) ?_
  refine lv_ifnullN (tgt := 44) hx hb dX11_who_16 (by decide) ?_
  refine lv_iconst (v := (-1)) hx hb dX11_who_44 (by decide) ?_
  exact W.iret (v := (-1)) hx hb hr (fun t ht hW => gb_ri ht rfl hS) hS.2.2 dX11_who_45
theorem dX11_shift_0 : decode cX11_shift 0 = .ok (.aload_n 0, 1) := by decide +kernel
theorem dX11_shift_1 : decode cX11_shift 1 = .ok (.iload_n 1, 1) := by decide +kernel
theorem dX11_shift_2 : decode cX11_shift 2 = .ok (.invokevirtual 113, 3) := by decide +kernel
theorem dX11_shift_5 : decode cX11_shift 5 = .ok (.astore 4, 2) := by decide +kernel
theorem dX11_shift_7 : decode cX11_shift 7 = .ok (.aload_n 0, 1) := by decide +kernel
theorem dX11_shift_8 : decode cX11_shift 8 = .ok (.iload_n 2, 1) := by decide +kernel
theorem dX11_shift_9 : decode cX11_shift 9 = .ok (.invokevirtual 148, 3) := by decide +kernel
theorem dX11_shift_12 : decode cX11_shift 12 = .ok (.astore 5, 2) := by decide +kernel
theorem dX11_shift_14 : decode cX11_shift 14 = .ok (.aload 4, 2) := by decide +kernel
theorem dX11_shift_16 : decode cX11_shift 16 = .ok (.ifnull 19, 3) := by decide +kernel
theorem dX11_shift_35 : decode cX11_shift 35 = .ok (.iconst (-1), 1) := by decide +kernel
theorem dX11_shift_36 : decode cX11_shift 36 = .ok (.ireturn, 1) := by decide +kernel
set_option maxHeartbeats 4000000 in
set_option maxRecDepth 100000 in
theorem a_X11_shift (l : Launch) (D : va_G) (cT : Nat → ClassId) (tt : Nat → Nat) (b1 b : Nat) (hb1 : b1 ≤ b) (p1 : Int32) (p2 : Int32) (p3 : Int32) : Met l yX11_shift (.code yX11_shift cX11_shift 10 (some FieldType.int) :: gb_wA) ({ frames := 1, cells := 0, slots := 0, locals := 21 }) (gb_Pc D cT tt b1 [.ref (b + 0), .int p1, .int p2, .int p3] (fun h => va_P D vwCl (gb_wl b (gb_C cT b)) h)) (gb_Qi (fun r _ => r = (-1)) (gb_fr b 135)) 0 0 (gb_fr b 135) := by
  refine Met.ofW (cc := cX11_shift) (maxL := 10) (ret := (some FieldType.int)) (by decide) rfl ?_
  intro p e s m args below meth c s₁ B hml hv
  obtain ⟨rfl, hSt, hP⟩ := hv
  have hx := B.exec
  have hb := B.bytes
  have hr := B.returns
  have hts := atoms_spec (ws := .code yX11_shift cX11_shift 10 (some FieldType.int) :: gb_wA) B.pre
  have hq : ∀ w ∈ gb_wA, w.before _ s = true := fun w h => hts w (List.mem_cons_of_mem _ h)
  have hown : s.vm.findClass RX11 = some m.cls := findClass_of_methodNamed B.named
  have hlocks := B.notSynchronized
  have hK := hSt.1
  have hS : va_S (gb_fr b 135) s.heap s.heap [] := va_S.rf
  have hl := lv_entry ([.ref (b + 0), .int p1, .int p2, .int p3]) (n := 10) (Nat.le_of_ble_eq_true rfl)
  rw [lg_entry_eq]
  generalize (lg_sl ([.ref (b + 0), .int p1, .int p2, .int p3]) ++ List.replicate (10 - (lg_sl ([.ref (b + 0), .int p1, .int p2, .int p3])).length) Slot.unset).toArray = ls at hl ⊢
  have hl : lv_has ls 10 [(0, .ref (b + 0)), (1, .int p1), (2, .int p2), (3, .int p3)] := hl
  refine lv_aload_n hx hb dX11_shift_0 rfl (lv_at hl 0 rfl) ?_
  refine lv_iload_n hx hb dX11_shift_1 rfl (lv_at hl 1 rfl) ?_
  refine gb_callq (va_runV (C := RX11) (As := [.int p1]) (rest := []) ⟨hx, hb, hml, hown, hq⟩ (f_X11_borderAt l D cT tt b1 b hb1 p1) (cwV 1 hq (gb_gV w_593 w_595 s_1_7 w_1 w_596) rfl rfl rfl (by decide +kernel) ⟨Nat.le_of_ble_eq_true rfl, Nat.le_of_ble_eq_true rfl⟩) (gb_preV (r := (RX11, TX11, 10)) (ci := 9) (q0 := 0) hSt hP rfl (gb_at b rfl) hS (fun q h => Nat.le_trans hb1 h.1) hP) rfl rfl hl.1 rfl (lv_room (Nat.le_of_ble_eq_true rfl)) dX11_shift_2 ⟨Nat.le_of_ble_eq_true rfl, Nat.le_of_ble_eq_true rfl⟩) hS (fun _ h => h) (fun _ h => h) (fun r H locs hY hk hS => ?_)
  obtain ⟨hr9, hP⟩ := hY
  subst hr9
  refine W.eq (g2 := F0 m 5 ls [.null]) rfl ?_
  refine lv_astoreN (lv' := [(4, .null), (0, .ref (b + 0)), (1, .int p1), (2, .int p2), (3, .int p3)]) hx hb dX11_shift_5 hl (by decide) rfl (fun ls hl => ?_)
  refine lv_aload_n hx hb dX11_shift_7 rfl (lv_at hl 1 rfl) ?_
  refine lv_iload_n hx hb dX11_shift_8 rfl (lv_at hl 3 rfl) ?_
  refine gb_callq (va_runV (C := RX11) (As := [.int p2]) (rest := []) ⟨hx, hb, hml, hown, hq⟩ (f_X11_nightAt l D cT tt b1 b hb1 p2) (cwV 1 hq (gb_gV w_646 w_648 s_1_8 w_1 w_649) rfl rfl rfl (by decide +kernel) ⟨Nat.le_of_ble_eq_true rfl, Nat.le_of_ble_eq_true rfl⟩) (gb_preV (r := (RX11, TX11, 10)) (ci := 9) (q0 := 0) hSt hP rfl (gb_at b rfl) hS (fun q h => Nat.le_trans hb1 h.1) hP) rfl rfl hl.1 rfl (lv_room (Nat.le_of_ble_eq_true rfl)) dX11_shift_9 ⟨Nat.le_of_ble_eq_true rfl, Nat.le_of_ble_eq_true rfl⟩) hS (fun _ h => h) (fun _ h => h) (fun r H locs hY hk hS => ?_)
  obtain ⟨hr9, hP⟩ := hY
  subst hr9
  refine W.eq (g2 := F0 m 12 ls [.null]) rfl ?_
  refine lv_astoreN (lv' := [(5, .null), (4, .null), (0, .ref (b + 0)), (1, .int p1), (2, .int p2), (3, .int p3)]) hx hb dX11_shift_12 hl (by decide) rfl (fun ls hl => ?_)
  refine lv_aloadN hx hb dX11_shift_14 (lv_at hl 1 rfl) ?_
  refine lv_ifnullN (tgt := 35) hx hb dX11_shift_16 (by decide) ?_
  refine lv_iconst (v := (-1)) hx hb dX11_shift_35 (by decide) ?_
  exact W.iret (v := (-1)) hx hb hr (fun t ht hW => gb_ri ht rfl hS) hS.2.2 dX11_shift_36
theorem dX11_even_0 : decode cX11_even 0 = .ok (.aload_n 0, 1) := by decide +kernel
theorem dX11_even_1 : decode cX11_even 1 = .ok (.iload_n 1, 1) := by decide +kernel
theorem dX11_even_2 : decode cX11_even 2 = .ok (.invokevirtual 113, 3) := by decide +kernel
theorem dX11_even_5 : decode cX11_even 5 = .ok (.astore_n 3, 1) := by decide +kernel
theorem dX11_even_6 : decode cX11_even 6 = .ok (.aload_n 3, 1) := by decide +kernel
theorem dX11_even_7 : decode cX11_even 7 = .ok (.ifnull 10, 3) := by decide +kernel
theorem dX11_even_17 : decode cX11_even 17 = .ok (.iconst (-1), 1) := by decide +kernel
theorem dX11_even_18 : decode cX11_even 18 = .ok (.ireturn, 1) := by decide +kernel
set_option maxHeartbeats 4000000 in
set_option maxRecDepth 100000 in
theorem a_X11_even (l : Launch) (D : va_G) (cT : Nat → ClassId) (tt : Nat → Nat) (b1 b : Nat) (hb1 : b1 ≤ b) (p1 : Int32) (p2 : Int32) : Met l yX11_even (.code yX11_even cX11_even 4 (some FieldType.int) :: gb_wA) ({ frames := 1, cells := 0, slots := 0, locals := 21 }) (gb_Pc D cT tt b1 [.ref (b + 0), .int p1, .int p2] (fun h => va_P D vwCl (gb_wl b (gb_C cT b)) h)) (gb_Qi (fun r _ => r = (-1)) (gb_fr b 135)) 0 0 (gb_fr b 135) := by
  refine Met.ofW (cc := cX11_even) (maxL := 4) (ret := (some FieldType.int)) (by decide) rfl ?_
  intro p e s m args below meth c s₁ B hml hv
  obtain ⟨rfl, hSt, hP⟩ := hv
  have hx := B.exec
  have hb := B.bytes
  have hr := B.returns
  have hts := atoms_spec (ws := .code yX11_even cX11_even 4 (some FieldType.int) :: gb_wA) B.pre
  have hq : ∀ w ∈ gb_wA, w.before _ s = true := fun w h => hts w (List.mem_cons_of_mem _ h)
  have hown : s.vm.findClass RX11 = some m.cls := findClass_of_methodNamed B.named
  have hlocks := B.notSynchronized
  have hK := hSt.1
  have hS : va_S (gb_fr b 135) s.heap s.heap [] := va_S.rf
  have hl := lv_entry ([.ref (b + 0), .int p1, .int p2]) (n := 4) (Nat.le_of_ble_eq_true rfl)
  rw [lg_entry_eq]
  generalize (lg_sl ([.ref (b + 0), .int p1, .int p2]) ++ List.replicate (4 - (lg_sl ([.ref (b + 0), .int p1, .int p2])).length) Slot.unset).toArray = ls at hl ⊢
  have hl : lv_has ls 4 [(0, .ref (b + 0)), (1, .int p1), (2, .int p2)] := hl
  refine lv_aload_n hx hb dX11_even_0 rfl (lv_at hl 0 rfl) ?_
  refine lv_iload_n hx hb dX11_even_1 rfl (lv_at hl 1 rfl) ?_
  refine gb_callq (va_runV (C := RX11) (As := [.int p1]) (rest := []) ⟨hx, hb, hml, hown, hq⟩ (f_X11_borderAt l D cT tt b1 b hb1 p1) (cwV 1 hq (gb_gV w_593 w_595 s_1_7 w_1 w_596) rfl rfl rfl (by decide +kernel) ⟨Nat.le_of_ble_eq_true rfl, Nat.le_of_ble_eq_true rfl⟩) (gb_preV (r := (RX11, TX11, 10)) (ci := 9) (q0 := 0) hSt hP rfl (gb_at b rfl) hS (fun q h => Nat.le_trans hb1 h.1) hP) rfl rfl hl.1 rfl (lv_room (Nat.le_of_ble_eq_true rfl)) dX11_even_2 ⟨Nat.le_of_ble_eq_true rfl, Nat.le_of_ble_eq_true rfl⟩) hS (fun _ h => h) (fun _ h => h) (fun r H locs hY hk hS => ?_)
  obtain ⟨hr9, hP⟩ := hY
  subst hr9
  refine W.eq (g2 := F0 m 5 ls [.null]) rfl ?_
  refine lv_astore_nN (lv' := [(3, .null), (0, .ref (b + 0)), (1, .int p1), (2, .int p2)]) hx hb dX11_even_5 rfl hl (by decide) rfl (fun ls hl => ?_)
  refine lv_aload_nN hx hb dX11_even_6 rfl (lv_at hl 0 rfl) ?_
  refine lv_ifnullN (tgt := 17) hx hb dX11_even_7 (by decide) ?_
  refine lv_iconst (v := (-1)) hx hb dX11_even_17 (by decide) ?_
  exact W.iret (v := (-1)) hx hb hr (fun t ht hW => gb_ri ht rfl hS) hS.2.2 dX11_even_18
theorem dX11_richest_0 : decode cX11_richest 0 = .ok (.aload_n 0, 1) := by decide +kernel
theorem dX11_richest_1 : decode cX11_richest 1 = .ok (.iload_n 1, 1) := by decide +kernel
theorem dX11_richest_2 : decode cX11_richest 2 = .ok (.invokevirtual 113, 3) := by decide +kernel
theorem dX11_richest_5 : decode cX11_richest 5 = .ok (.astore 4, 2) := by decide +kernel
theorem dX11_richest_7 : decode cX11_richest 7 = .ok (.aload_n 0, 1) := by decide +kernel
theorem dX11_richest_8 : decode cX11_richest 8 = .ok (.iload_n 2, 1) := by decide +kernel
theorem dX11_richest_9 : decode cX11_richest 9 = .ok (.invokevirtual 156, 3) := by decide +kernel
theorem dX11_richest_12 : decode cX11_richest 12 = .ok (.astore 5, 2) := by decide +kernel
theorem dX11_richest_14 : decode cX11_richest 14 = .ok (.aload 4, 2) := by decide +kernel
theorem dX11_richest_16 : decode cX11_richest 16 = .ok (.ifnull 16, 3) := by decide +kernel
theorem dX11_richest_32 : decode cX11_richest 32 = .ok (.iconst (-1), 1) := by decide +kernel
theorem dX11_richest_33 : decode cX11_richest 33 = .ok (.ireturn, 1) := by decide +kernel
set_option maxHeartbeats 4000000 in
set_option maxRecDepth 100000 in
theorem a_X11_richest (l : Launch) (D : va_G) (cT : Nat → ClassId) (tt : Nat → Nat) (b1 b : Nat) (hb1 : b1 ≤ b) (p1 : Int32) (p2 : Int32) (p3 : Int32) : Met l yX11_richest (.code yX11_richest cX11_richest 6 (some FieldType.int) :: gb_wA) ({ frames := 1, cells := 0, slots := 0, locals := 21 }) (gb_Pc D cT tt b1 [.ref (b + 0), .int p1, .int p2, .int p3] (fun h => va_P D vwCl (gb_wl b (gb_C cT b)) h)) (gb_Qi (fun r _ => r = (-1)) (gb_fr b 135)) 0 0 (gb_fr b 135) := by
  refine Met.ofW (cc := cX11_richest) (maxL := 6) (ret := (some FieldType.int)) (by decide) rfl ?_
  intro p e s m args below meth c s₁ B hml hv
  obtain ⟨rfl, hSt, hP⟩ := hv
  have hx := B.exec
  have hb := B.bytes
  have hr := B.returns
  have hts := atoms_spec (ws := .code yX11_richest cX11_richest 6 (some FieldType.int) :: gb_wA) B.pre
  have hq : ∀ w ∈ gb_wA, w.before _ s = true := fun w h => hts w (List.mem_cons_of_mem _ h)
  have hown : s.vm.findClass RX11 = some m.cls := findClass_of_methodNamed B.named
  have hlocks := B.notSynchronized
  have hK := hSt.1
  have hS : va_S (gb_fr b 135) s.heap s.heap [] := va_S.rf
  have hl := lv_entry ([.ref (b + 0), .int p1, .int p2, .int p3]) (n := 6) (Nat.le_of_ble_eq_true rfl)
  rw [lg_entry_eq]
  generalize (lg_sl ([.ref (b + 0), .int p1, .int p2, .int p3]) ++ List.replicate (6 - (lg_sl ([.ref (b + 0), .int p1, .int p2, .int p3])).length) Slot.unset).toArray = ls at hl ⊢
  have hl : lv_has ls 6 [(0, .ref (b + 0)), (1, .int p1), (2, .int p2), (3, .int p3)] := hl
  refine lv_aload_n hx hb dX11_richest_0 rfl (lv_at hl 0 rfl) ?_
  refine lv_iload_n hx hb dX11_richest_1 rfl (lv_at hl 1 rfl) ?_
  refine gb_callq (va_runV (C := RX11) (As := [.int p1]) (rest := []) ⟨hx, hb, hml, hown, hq⟩ (f_X11_borderAt l D cT tt b1 b hb1 p1) (cwV 1 hq (gb_gV w_593 w_595 s_1_7 w_1 w_596) rfl rfl rfl (by decide +kernel) ⟨Nat.le_of_ble_eq_true rfl, Nat.le_of_ble_eq_true rfl⟩) (gb_preV (r := (RX11, TX11, 10)) (ci := 9) (q0 := 0) hSt hP rfl (gb_at b rfl) hS (fun q h => Nat.le_trans hb1 h.1) hP) rfl rfl hl.1 rfl (lv_room (Nat.le_of_ble_eq_true rfl)) dX11_richest_2 ⟨Nat.le_of_ble_eq_true rfl, Nat.le_of_ble_eq_true rfl⟩) hS (fun _ h => h) (fun _ h => h) (fun r H locs hY hk hS => ?_)
  obtain ⟨hr9, hP⟩ := hY
  subst hr9
  refine W.eq (g2 := F0 m 5 ls [.null]) rfl ?_
  refine lv_astoreN (lv' := [(4, .null), (0, .ref (b + 0)), (1, .int p1), (2, .int p2), (3, .int p3)]) hx hb dX11_richest_5 hl (by decide) rfl (fun ls hl => ?_)
  refine lv_aload_n hx hb dX11_richest_7 rfl (lv_at hl 1 rfl) ?_
  refine lv_iload_n hx hb dX11_richest_8 rfl (lv_at hl 3 rfl) ?_
  refine gb_callq (va_runV (C := RX11) (As := [.int p2]) (rest := []) ⟨hx, hb, hml, hown, hq⟩ (f_X11_lawAt l D cT tt b1 b hb1 p2) (cwV 1 hq (gb_gV w_659 w_661 s_1_9 w_1 w_662) rfl rfl rfl (by decide +kernel) ⟨Nat.le_of_ble_eq_true rfl, Nat.le_of_ble_eq_true rfl⟩) (gb_preV (r := (RX11, TX11, 10)) (ci := 9) (q0 := 0) hSt hP rfl (gb_at b rfl) hS (fun q h => Nat.le_trans hb1 h.1) hP) rfl rfl hl.1 rfl (lv_room (Nat.le_of_ble_eq_true rfl)) dX11_richest_9 ⟨Nat.le_of_ble_eq_true rfl, Nat.le_of_ble_eq_true rfl⟩) hS (fun _ h => h) (fun _ h => h) (fun r H locs hY hk hS => ?_)
  obtain ⟨hr9, hP⟩ := hY
  subst hr9
  refine W.eq (g2 := F0 m 12 ls [.null]) rfl ?_
  refine lv_astoreN (lv' := [(5, .null), (4, .null), (0, .ref (b + 0)), (1, .int p1), (2, .int p2), (3, .int p3)]) hx hb dX11_richest_12 hl (by decide) rfl (fun ls hl => ?_)
  refine lv_aloadN hx hb dX11_richest_14 (lv_at hl 1 rfl) ?_
  refine lv_ifnullN (tgt := 32) hx hb dX11_richest_16 (by decide) ?_
  refine lv_iconst (v := (-1)) hx hb dX11_richest_32 (by decide) ?_
  exact W.iret (v := (-1)) hx hb hr (fun t ht hW => gb_ri ht rfl hS) hS.2.2 dX11_richest_33
theorem dX11_close_0 : decode cX11_close 0 = .ok (.aload_n 0, 1) := by decide +kernel
theorem dX11_close_1 : decode cX11_close 1 = .ok (.iload_n 1, 1) := by decide +kernel
theorem dX11_close_2 : decode cX11_close 2 = .ok (.invokevirtual 113, 3) := by decide +kernel
theorem dX11_close_5 : decode cX11_close 5 = .ok (.astore_n 3, 1) := by decide +kernel
theorem dX11_close_6 : decode cX11_close 6 = .ok (.aload_n 3, 1) := by decide +kernel
theorem dX11_close_7 : decode cX11_close 7 = .ok (.ifnull 18, 3) := by decide +kernel
theorem dX11_close_25 : decode cX11_close 25 = .ok (.iconst (-1), 1) := by decide +kernel
theorem dX11_close_26 : decode cX11_close 26 = .ok (.ireturn, 1) := by decide +kernel
set_option maxHeartbeats 4000000 in
set_option maxRecDepth 100000 in
theorem a_X11_close (l : Launch) (D : va_G) (cT : Nat → ClassId) (tt : Nat → Nat) (b1 b : Nat) (hb1 : b1 ≤ b) (p1 : Int32) (p2 : Int32) : Met l yX11_close (.code yX11_close cX11_close 7 (some FieldType.int) :: gb_wA) ({ frames := 1, cells := 0, slots := 0, locals := 21 }) (gb_Pc D cT tt b1 [.ref (b + 0), .int p1, .int p2] (fun h => va_P D vwCl (gb_wl b (gb_C cT b)) h)) (gb_Qi (fun r _ => r = (-1)) (gb_fr b 135)) 0 0 (gb_fr b 135) := by
  refine Met.ofW (cc := cX11_close) (maxL := 7) (ret := (some FieldType.int)) (by decide) rfl ?_
  intro p e s m args below meth c s₁ B hml hv
  obtain ⟨rfl, hSt, hP⟩ := hv
  have hx := B.exec
  have hb := B.bytes
  have hr := B.returns
  have hts := atoms_spec (ws := .code yX11_close cX11_close 7 (some FieldType.int) :: gb_wA) B.pre
  have hq : ∀ w ∈ gb_wA, w.before _ s = true := fun w h => hts w (List.mem_cons_of_mem _ h)
  have hown : s.vm.findClass RX11 = some m.cls := findClass_of_methodNamed B.named
  have hlocks := B.notSynchronized
  have hK := hSt.1
  have hS : va_S (gb_fr b 135) s.heap s.heap [] := va_S.rf
  have hl := lv_entry ([.ref (b + 0), .int p1, .int p2]) (n := 7) (Nat.le_of_ble_eq_true rfl)
  rw [lg_entry_eq]
  generalize (lg_sl ([.ref (b + 0), .int p1, .int p2]) ++ List.replicate (7 - (lg_sl ([.ref (b + 0), .int p1, .int p2])).length) Slot.unset).toArray = ls at hl ⊢
  have hl : lv_has ls 7 [(0, .ref (b + 0)), (1, .int p1), (2, .int p2)] := hl
  refine lv_aload_n hx hb dX11_close_0 rfl (lv_at hl 0 rfl) ?_
  refine lv_iload_n hx hb dX11_close_1 rfl (lv_at hl 1 rfl) ?_
  refine gb_callq (va_runV (C := RX11) (As := [.int p1]) (rest := []) ⟨hx, hb, hml, hown, hq⟩ (f_X11_borderAt l D cT tt b1 b hb1 p1) (cwV 1 hq (gb_gV w_593 w_595 s_1_7 w_1 w_596) rfl rfl rfl (by decide +kernel) ⟨Nat.le_of_ble_eq_true rfl, Nat.le_of_ble_eq_true rfl⟩) (gb_preV (r := (RX11, TX11, 10)) (ci := 9) (q0 := 0) hSt hP rfl (gb_at b rfl) hS (fun q h => Nat.le_trans hb1 h.1) hP) rfl rfl hl.1 rfl (lv_room (Nat.le_of_ble_eq_true rfl)) dX11_close_2 ⟨Nat.le_of_ble_eq_true rfl, Nat.le_of_ble_eq_true rfl⟩) hS (fun _ h => h) (fun _ h => h) (fun r H locs hY hk hS => ?_)
  obtain ⟨hr9, hP⟩ := hY
  subst hr9
  refine W.eq (g2 := F0 m 5 ls [.null]) rfl ?_
  refine lv_astore_nN (lv' := [(3, .null), (0, .ref (b + 0)), (1, .int p1), (2, .int p2)]) hx hb dX11_close_5 rfl hl (by decide) rfl (fun ls hl => ?_)
  refine lv_aload_nN hx hb dX11_close_6 rfl (lv_at hl 0 rfl) ?_
  refine lv_ifnullN (tgt := 25) hx hb dX11_close_7 (by decide) ?_
  refine lv_iconst (v := (-1)) hx hb dX11_close_25 (by decide) ?_
  exact W.iret (v := (-1)) hx hb hr (fun t ht hW => gb_ri ht rfl hS) hS.2.2 dX11_close_26
theorem dX11_tar_0 : decode cX11_tar 0 = .ok (.aload_n 0, 1) := by decide +kernel
theorem dX11_tar_1 : decode cX11_tar 1 = .ok (.iload_n 1, 1) := by decide +kernel
theorem dX11_tar_2 : decode cX11_tar 2 = .ok (.invokevirtual 113, 3) := by decide +kernel
theorem dX11_tar_5 : decode cX11_tar 5 = .ok (.astore 4, 2) := by decide +kernel
theorem dX11_tar_7 : decode cX11_tar 7 = .ok (.aload 4, 2) := by decide +kernel
theorem dX11_tar_9 : decode cX11_tar 9 = .ok (.ifnull 23, 3) := by decide +kernel
theorem dX11_tar_32 : decode cX11_tar 32 = .ok (.iconst (-1), 1) := by decide +kernel
theorem dX11_tar_33 : decode cX11_tar 33 = .ok (.ireturn, 1) := by decide +kernel
set_option maxHeartbeats 4000000 in
set_option maxRecDepth 100000 in
theorem a_X11_tar (l : Launch) (D : va_G) (cT : Nat → ClassId) (tt : Nat → Nat) (b1 b : Nat) (hb1 : b1 ≤ b) (p1 : Int32) (p2 : Int32) (p3 : Int32) : Met l yX11_tar (.code yX11_tar cX11_tar 9 (some FieldType.int) :: gb_wA) ({ frames := 1, cells := 0, slots := 0, locals := 21 }) (gb_Pc D cT tt b1 [.ref (b + 0), .int p1, .int p2, .int p3] (fun h => va_P D vwCl (gb_wl b (gb_C cT b)) h)) (gb_Qi (fun r _ => r = (-1)) (gb_fr b 135)) 0 0 (gb_fr b 135) := by
  refine Met.ofW (cc := cX11_tar) (maxL := 9) (ret := (some FieldType.int)) (by decide) rfl ?_
  intro p e s m args below meth c s₁ B hml hv
  obtain ⟨rfl, hSt, hP⟩ := hv
  have hx := B.exec
  have hb := B.bytes
  have hr := B.returns
  have hts := atoms_spec (ws := .code yX11_tar cX11_tar 9 (some FieldType.int) :: gb_wA) B.pre
  have hq : ∀ w ∈ gb_wA, w.before _ s = true := fun w h => hts w (List.mem_cons_of_mem _ h)
  have hown : s.vm.findClass RX11 = some m.cls := findClass_of_methodNamed B.named
  have hlocks := B.notSynchronized
  have hK := hSt.1
  have hS : va_S (gb_fr b 135) s.heap s.heap [] := va_S.rf
  have hl := lv_entry ([.ref (b + 0), .int p1, .int p2, .int p3]) (n := 9) (Nat.le_of_ble_eq_true rfl)
  rw [lg_entry_eq]
  generalize (lg_sl ([.ref (b + 0), .int p1, .int p2, .int p3]) ++ List.replicate (9 - (lg_sl ([.ref (b + 0), .int p1, .int p2, .int p3])).length) Slot.unset).toArray = ls at hl ⊢
  have hl : lv_has ls 9 [(0, .ref (b + 0)), (1, .int p1), (2, .int p2), (3, .int p3)] := hl
  refine lv_aload_n hx hb dX11_tar_0 rfl (lv_at hl 0 rfl) ?_
  refine lv_iload_n hx hb dX11_tar_1 rfl (lv_at hl 1 rfl) ?_
  refine gb_callq (va_runV (C := RX11) (As := [.int p1]) (rest := []) ⟨hx, hb, hml, hown, hq⟩ (f_X11_borderAt l D cT tt b1 b hb1 p1) (cwV 1 hq (gb_gV w_593 w_595 s_1_7 w_1 w_596) rfl rfl rfl (by decide +kernel) ⟨Nat.le_of_ble_eq_true rfl, Nat.le_of_ble_eq_true rfl⟩) (gb_preV (r := (RX11, TX11, 10)) (ci := 9) (q0 := 0) hSt hP rfl (gb_at b rfl) hS (fun q h => Nat.le_trans hb1 h.1) hP) rfl rfl hl.1 rfl (lv_room (Nat.le_of_ble_eq_true rfl)) dX11_tar_2 ⟨Nat.le_of_ble_eq_true rfl, Nat.le_of_ble_eq_true rfl⟩) hS (fun _ h => h) (fun _ h => h) (fun r H locs hY hk hS => ?_)
  obtain ⟨hr9, hP⟩ := hY
  subst hr9
  refine W.eq (g2 := F0 m 5 ls [.null]) rfl ?_
  refine lv_astoreN (lv' := [(4, .null), (0, .ref (b + 0)), (1, .int p1), (2, .int p2), (3, .int p3)]) hx hb dX11_tar_5 hl (by decide) rfl (fun ls hl => ?_)
  refine lv_aloadN hx hb dX11_tar_7 (lv_at hl 0 rfl) ?_
  refine lv_ifnullN (tgt := 32) hx hb dX11_tar_9 (by decide) ?_
  refine lv_iconst (v := (-1)) hx hb dX11_tar_32 (by decide) ?_
  exact W.iret (v := (-1)) hx hb hr (fun t ht hW => gb_ri ht rfl hS) hS.2.2 dX11_tar_33
theorem dX11_lame_0 : decode cX11_lame 0 = .ok (.aload_n 0, 1) := by decide +kernel
theorem dX11_lame_1 : decode cX11_lame 1 = .ok (.iload_n 1, 1) := by decide +kernel
theorem dX11_lame_2 : decode cX11_lame 2 = .ok (.invokevirtual 113, 3) := by decide +kernel
theorem dX11_lame_5 : decode cX11_lame 5 = .ok (.astore 4, 2) := by decide +kernel
theorem dX11_lame_7 : decode cX11_lame 7 = .ok (.aload 4, 2) := by decide +kernel
theorem dX11_lame_9 : decode cX11_lame 9 = .ok (.ifnonnull 5, 3) := by decide +kernel
theorem dX11_lame_12 : decode cX11_lame 12 = .ok (.iconst (-1), 1) := by decide +kernel
theorem dX11_lame_13 : decode cX11_lame 13 = .ok (.ireturn, 1) := by decide +kernel
set_option maxHeartbeats 4000000 in
set_option maxRecDepth 100000 in
theorem a_X11_lame (l : Launch) (D : va_G) (cT : Nat → ClassId) (tt : Nat → Nat) (b1 b : Nat) (hb1 : b1 ≤ b) (p1 : Int32) (p2 : Int32) (p3 : Int32) : Met l yX11_lame (.code yX11_lame cX11_lame 9 (some FieldType.int) :: gb_wA) ({ frames := 1, cells := 0, slots := 0, locals := 21 }) (gb_Pc D cT tt b1 [.ref (b + 0), .int p1, .int p2, .int p3] (fun h => va_P D vwCl (gb_wl b (gb_C cT b)) h)) (gb_Qi (fun r _ => r = (-1)) (gb_fr b 135)) 0 0 (gb_fr b 135) := by
  refine Met.ofW (cc := cX11_lame) (maxL := 9) (ret := (some FieldType.int)) (by decide) rfl ?_
  intro p e s m args below meth c s₁ B hml hv
  obtain ⟨rfl, hSt, hP⟩ := hv
  have hx := B.exec
  have hb := B.bytes
  have hr := B.returns
  have hts := atoms_spec (ws := .code yX11_lame cX11_lame 9 (some FieldType.int) :: gb_wA) B.pre
  have hq : ∀ w ∈ gb_wA, w.before _ s = true := fun w h => hts w (List.mem_cons_of_mem _ h)
  have hown : s.vm.findClass RX11 = some m.cls := findClass_of_methodNamed B.named
  have hlocks := B.notSynchronized
  have hK := hSt.1
  have hS : va_S (gb_fr b 135) s.heap s.heap [] := va_S.rf
  have hl := lv_entry ([.ref (b + 0), .int p1, .int p2, .int p3]) (n := 9) (Nat.le_of_ble_eq_true rfl)
  rw [lg_entry_eq]
  generalize (lg_sl ([.ref (b + 0), .int p1, .int p2, .int p3]) ++ List.replicate (9 - (lg_sl ([.ref (b + 0), .int p1, .int p2, .int p3])).length) Slot.unset).toArray = ls at hl ⊢
  have hl : lv_has ls 9 [(0, .ref (b + 0)), (1, .int p1), (2, .int p2), (3, .int p3)] := hl
  refine lv_aload_n hx hb dX11_lame_0 rfl (lv_at hl 0 rfl) ?_
  refine lv_iload_n hx hb dX11_lame_1 rfl (lv_at hl 1 rfl) ?_
  refine gb_callq (va_runV (C := RX11) (As := [.int p1]) (rest := []) ⟨hx, hb, hml, hown, hq⟩ (f_X11_borderAt l D cT tt b1 b hb1 p1) (cwV 1 hq (gb_gV w_593 w_595 s_1_7 w_1 w_596) rfl rfl rfl (by decide +kernel) ⟨Nat.le_of_ble_eq_true rfl, Nat.le_of_ble_eq_true rfl⟩) (gb_preV (r := (RX11, TX11, 10)) (ci := 9) (q0 := 0) hSt hP rfl (gb_at b rfl) hS (fun q h => Nat.le_trans hb1 h.1) hP) rfl rfl hl.1 rfl (lv_room (Nat.le_of_ble_eq_true rfl)) dX11_lame_2 ⟨Nat.le_of_ble_eq_true rfl, Nat.le_of_ble_eq_true rfl⟩) hS (fun _ h => h) (fun _ h => h) (fun r H locs hY hk hS => ?_)
  obtain ⟨hr9, hP⟩ := hY
  subst hr9
  refine W.eq (g2 := F0 m 5 ls [.null]) rfl ?_
  refine lv_astoreN (lv' := [(4, .null), (0, .ref (b + 0)), (1, .int p1), (2, .int p2), (3, .int p3)]) hx hb dX11_lame_5 hl (by decide) rfl (fun ls hl => ?_)
  refine lv_aloadN hx hb dX11_lame_7 (lv_at hl 0 rfl) ?_
  refine lv_ifnonnullN hx hb dX11_lame_9 ?_
  refine lv_iconst (v := (-1)) hx hb dX11_lame_12 (by decide) ?_
  exact W.iret (v := (-1)) hx hb hr (fun t ht hW => gb_ri ht rfl hS) hS.2.2 dX11_lame_13
theorem dX11_two_0 : decode cX11_two 0 = .ok (.aload_n 0, 1) := by decide +kernel
theorem dX11_two_1 : decode cX11_two 1 = .ok (.iload_n 1, 1) := by decide +kernel
theorem dX11_two_2 : decode cX11_two 2 = .ok (.invokevirtual 113, 3) := by decide +kernel
theorem dX11_two_5 : decode cX11_two 5 = .ok (.astore 5, 2) := by decide +kernel
theorem dX11_two_7 : decode cX11_two 7 = .ok (.aload_n 0, 1) := by decide +kernel
theorem dX11_two_8 : decode cX11_two 8 = .ok (.iload_n 3, 1) := by decide +kernel
theorem dX11_two_9 : decode cX11_two 9 = .ok (.invokevirtual 113, 3) := by decide +kernel
theorem dX11_two_12 : decode cX11_two 12 = .ok (.astore 6, 2) := by decide +kernel
theorem dX11_two_14 : decode cX11_two 14 = .ok (.aload 5, 2) := by decide +kernel
theorem dX11_two_16 : decode cX11_two 16 = .ok (.ifnull 28, 3) := by decide +kernel
theorem dX11_two_44 : decode cX11_two 44 = .ok (.iconst (-1), 1) := by decide +kernel
theorem dX11_two_45 : decode cX11_two 45 = .ok (.ireturn, 1) := by decide +kernel
set_option maxHeartbeats 4000000 in
set_option maxRecDepth 100000 in
theorem a_X11_two (l : Launch) (D : va_G) (cT : Nat → ClassId) (tt : Nat → Nat) (b1 b : Nat) (hb1 : b1 ≤ b) (p1 : Int32) (p2 : Int32) (p3 : Int32) (p4 : Int32) : Met l yX11_two (.code yX11_two cX11_two 15 (some FieldType.int) :: gb_wA) ({ frames := 1, cells := 0, slots := 0, locals := 21 }) (gb_Pc D cT tt b1 [.ref (b + 0), .int p1, .int p2, .int p3, .int p4] (fun h => va_P D vwCl (gb_wl b (gb_C cT b)) h)) (gb_Qi (fun r _ => r = (-1)) (gb_fr b 135)) 0 0 (gb_fr b 135) := by
  refine Met.ofW (cc := cX11_two) (maxL := 15) (ret := (some FieldType.int)) (by decide) rfl ?_
  intro p e s m args below meth c s₁ B hml hv
  obtain ⟨rfl, hSt, hP⟩ := hv
  have hx := B.exec
  have hb := B.bytes
  have hr := B.returns
  have hts := atoms_spec (ws := .code yX11_two cX11_two 15 (some FieldType.int) :: gb_wA) B.pre
  have hq : ∀ w ∈ gb_wA, w.before _ s = true := fun w h => hts w (List.mem_cons_of_mem _ h)
  have hown : s.vm.findClass RX11 = some m.cls := findClass_of_methodNamed B.named
  have hlocks := B.notSynchronized
  have hK := hSt.1
  have hS : va_S (gb_fr b 135) s.heap s.heap [] := va_S.rf
  have hl := lv_entry ([.ref (b + 0), .int p1, .int p2, .int p3, .int p4]) (n := 15) (Nat.le_of_ble_eq_true rfl)
  rw [lg_entry_eq]
  generalize (lg_sl ([.ref (b + 0), .int p1, .int p2, .int p3, .int p4]) ++ List.replicate (15 - (lg_sl ([.ref (b + 0), .int p1, .int p2, .int p3, .int p4])).length) Slot.unset).toArray = ls at hl ⊢
  have hl : lv_has ls 15 [(0, .ref (b + 0)), (1, .int p1), (2, .int p2), (3, .int p3), (4, .int p4)] := hl
  refine lv_aload_n hx hb dX11_two_0 rfl (lv_at hl 0 rfl) ?_
  refine lv_iload_n hx hb dX11_two_1 rfl (lv_at hl 1 rfl) ?_
  refine gb_callq (va_runV (C := RX11) (As := [.int p1]) (rest := []) ⟨hx, hb, hml, hown, hq⟩ (f_X11_borderAt l D cT tt b1 b hb1 p1) (cwV 1 hq (gb_gV w_593 w_595 s_1_7 w_1 w_596) rfl rfl rfl (by decide +kernel) ⟨Nat.le_of_ble_eq_true rfl, Nat.le_of_ble_eq_true rfl⟩) (gb_preV (r := (RX11, TX11, 10)) (ci := 9) (q0 := 0) hSt hP rfl (gb_at b rfl) hS (fun q h => Nat.le_trans hb1 h.1) hP) rfl rfl hl.1 rfl (lv_room (Nat.le_of_ble_eq_true rfl)) dX11_two_2 ⟨Nat.le_of_ble_eq_true rfl, Nat.le_of_ble_eq_true rfl⟩) hS (fun _ h => h) (fun _ h => h) (fun r H locs hY hk hS => ?_)
  obtain ⟨hr9, hP⟩ := hY
  subst hr9
  refine W.eq (g2 := F0 m 5 ls [.null]) rfl ?_
  refine lv_astoreN (lv' := [(5, .null), (0, .ref (b + 0)), (1, .int p1), (2, .int p2), (3, .int p3), (4, .int p4)]) hx hb dX11_two_5 hl (by decide) rfl (fun ls hl => ?_)
  refine lv_aload_n hx hb dX11_two_7 rfl (lv_at hl 1 rfl) ?_
  refine lv_iload_n hx hb dX11_two_8 rfl (lv_at hl 4 rfl) ?_
  refine gb_callq (va_runV (C := RX11) (As := [.int p3]) (rest := []) ⟨hx, hb, hml, hown, hq⟩ (f_X11_borderAt l D cT tt b1 b hb1 p3) (cwV 1 hq (gb_gV w_593 w_595 s_1_7 w_1 w_596) rfl rfl rfl (by decide +kernel) ⟨Nat.le_of_ble_eq_true rfl, Nat.le_of_ble_eq_true rfl⟩) (gb_preV (r := (RX11, TX11, 10)) (ci := 9) (q0 := 0) hSt hP rfl (gb_at b rfl) hS (fun q h => Nat.le_trans hb1 h.1) hP) rfl rfl hl.1 rfl (lv_room (Nat.le_of_ble_eq_true rfl)) dX11_two_9 ⟨Nat.le_of_ble_eq_true rfl, Nat.le_of_ble_eq_true rfl⟩) hS (fun _ h => h) (fun _ h => h) (fun r H locs hY hk hS => ?_)
  obtain ⟨hr9, hP⟩ := hY
  subst hr9
  refine W.eq (g2 := F0 m 12 ls [.null]) rfl ?_
  refine lv_astoreN (lv' := [(6, .null), (5, .null), (0, .ref (b + 0)), (1, .int p1), (2, .int p2), (3, .int p3), (4, .int p4)]) hx hb dX11_two_12 hl (by decide) rfl (fun ls hl => ?_)
  refine lv_aloadN hx hb dX11_two_14 (lv_at hl 1 rfl) ?_
  refine lv_ifnullN (tgt := 44) hx hb dX11_two_16 (by decide) ?_
  refine lv_iconst (v := (-1)) hx hb dX11_two_44 (by decide) ?_
  exact W.iret (v := (-1)) hx hb hr (fun t ht hW => gb_ri ht rfl hS) hS.2.2 dX11_two_45
theorem dX11_alike_0 : decode cX11_alike 0 = .ok (.aload_n 0, 1) := by decide +kernel
theorem dX11_alike_1 : decode cX11_alike 1 = .ok (.iload_n 1, 1) := by decide +kernel
theorem dX11_alike_2 : decode cX11_alike 2 = .ok (.invokevirtual 113, 3) := by decide +kernel
theorem dX11_alike_5 : decode cX11_alike 5 = .ok (.astore 4, 2) := by decide +kernel
theorem dX11_alike_7 : decode cX11_alike 7 = .ok (.aload 4, 2) := by decide +kernel
theorem dX11_alike_9 : decode cX11_alike 9 = .ok (.ifnull 26, 3) := by decide +kernel
theorem dX11_alike_35 : decode cX11_alike 35 = .ok (.iconst (-1), 1) := by decide +kernel
theorem dX11_alike_36 : decode cX11_alike 36 = .ok (.ireturn, 1) := by decide +kernel
set_option maxHeartbeats 4000000 in
set_option maxRecDepth 100000 in
theorem a_X11_alike (l : Launch) (D : va_G) (cT : Nat → ClassId) (tt : Nat → Nat) (b1 b : Nat) (hb1 : b1 ≤ b) (p1 : Int32) (p2 : Int32) (p3 : Int32) : Met l yX11_alike (.code yX11_alike cX11_alike 7 (some FieldType.int) :: gb_wA) ({ frames := 1, cells := 0, slots := 0, locals := 21 }) (gb_Pc D cT tt b1 [.ref (b + 0), .int p1, .int p2, .int p3] (fun h => va_P D vwCl (gb_wl b (gb_C cT b)) h)) (gb_Qi (fun r _ => r = (-1)) (gb_fr b 135)) 0 0 (gb_fr b 135) := by
  refine Met.ofW (cc := cX11_alike) (maxL := 7) (ret := (some FieldType.int)) (by decide) rfl ?_
  intro p e s m args below meth c s₁ B hml hv
  obtain ⟨rfl, hSt, hP⟩ := hv
  have hx := B.exec
  have hb := B.bytes
  have hr := B.returns
  have hts := atoms_spec (ws := .code yX11_alike cX11_alike 7 (some FieldType.int) :: gb_wA) B.pre
  have hq : ∀ w ∈ gb_wA, w.before _ s = true := fun w h => hts w (List.mem_cons_of_mem _ h)
  have hown : s.vm.findClass RX11 = some m.cls := findClass_of_methodNamed B.named
  have hlocks := B.notSynchronized
  have hK := hSt.1
  have hS : va_S (gb_fr b 135) s.heap s.heap [] := va_S.rf
  have hl := lv_entry ([.ref (b + 0), .int p1, .int p2, .int p3]) (n := 7) (Nat.le_of_ble_eq_true rfl)
  rw [lg_entry_eq]
  generalize (lg_sl ([.ref (b + 0), .int p1, .int p2, .int p3]) ++ List.replicate (7 - (lg_sl ([.ref (b + 0), .int p1, .int p2, .int p3])).length) Slot.unset).toArray = ls at hl ⊢
  have hl : lv_has ls 7 [(0, .ref (b + 0)), (1, .int p1), (2, .int p2), (3, .int p3)] := hl
  refine lv_aload_n hx hb dX11_alike_0 rfl (lv_at hl 0 rfl) ?_
  refine lv_iload_n hx hb dX11_alike_1 rfl (lv_at hl 1 rfl) ?_
  refine gb_callq (va_runV (C := RX11) (As := [.int p1]) (rest := []) ⟨hx, hb, hml, hown, hq⟩ (f_X11_borderAt l D cT tt b1 b hb1 p1) (cwV 1 hq (gb_gV w_593 w_595 s_1_7 w_1 w_596) rfl rfl rfl (by decide +kernel) ⟨Nat.le_of_ble_eq_true rfl, Nat.le_of_ble_eq_true rfl⟩) (gb_preV (r := (RX11, TX11, 10)) (ci := 9) (q0 := 0) hSt hP rfl (gb_at b rfl) hS (fun q h => Nat.le_trans hb1 h.1) hP) rfl rfl hl.1 rfl (lv_room (Nat.le_of_ble_eq_true rfl)) dX11_alike_2 ⟨Nat.le_of_ble_eq_true rfl, Nat.le_of_ble_eq_true rfl⟩) hS (fun _ h => h) (fun _ h => h) (fun r H locs hY hk hS => ?_)
  obtain ⟨hr9, hP⟩ := hY
  subst hr9
  refine W.eq (g2 := F0 m 5 ls [.null]) rfl ?_
  refine lv_astoreN (lv' := [(4, .null), (0, .ref (b + 0)), (1, .int p1), (2, .int p2), (3, .int p3)]) hx hb dX11_alike_5 hl (by decide) rfl (fun ls hl => ?_)
  refine lv_aloadN hx hb dX11_alike_7 (lv_at hl 0 rfl) ?_
  refine lv_ifnullN (tgt := 35) hx hb dX11_alike_9 (by decide) ?_
  refine lv_iconst (v := (-1)) hx hb dX11_alike_35 (by decide) ?_
  exact W.iret (v := (-1)) hx hb hr (fun t ht hW => gb_ri ht rfl hS) hS.2.2 dX11_alike_36
theorem dX11_span_0 : decode cX11_span 0 = .ok (.aload_n 0, 1) := by decide +kernel
theorem dX11_span_1 : decode cX11_span 1 = .ok (.iload_n 1, 1) := by decide +kernel
theorem dX11_span_2 : decode cX11_span 2 = .ok (.invokevirtual 113, 3) := by decide +kernel
theorem dX11_span_5 : decode cX11_span 5 = .ok (.astore 5, 2) := by decide +kernel
theorem dX11_span_7 : decode cX11_span 7 = .ok (.aload 5, 2) := by decide +kernel
theorem dX11_span_9 : decode cX11_span 9 = .ok (.ifnull 25, 3) := by decide +kernel
theorem dX11_span_34 : decode cX11_span 34 = .ok (.iconst (-1), 1) := by decide +kernel
theorem dX11_span_35 : decode cX11_span 35 = .ok (.ireturn, 1) := by decide +kernel
set_option maxHeartbeats 4000000 in
set_option maxRecDepth 100000 in
theorem a_X11_span (l : Launch) (D : va_G) (cT : Nat → ClassId) (tt : Nat → Nat) (b1 b : Nat) (hb1 : b1 ≤ b) (p1 : Int32) (p2 : Int32) (p3 : Int32) (p4 : Int32) : Met l yX11_span (.code yX11_span cX11_span 6 (some FieldType.int) :: gb_wA) ({ frames := 1, cells := 0, slots := 0, locals := 21 }) (gb_Pc D cT tt b1 [.ref (b + 0), .int p1, .int p2, .int p3, .int p4] (fun h => va_P D vwCl (gb_wl b (gb_C cT b)) h)) (gb_Qi (fun r _ => r = (-1)) (gb_fr b 135)) 0 0 (gb_fr b 135) := by
  refine Met.ofW (cc := cX11_span) (maxL := 6) (ret := (some FieldType.int)) (by decide) rfl ?_
  intro p e s m args below meth c s₁ B hml hv
  obtain ⟨rfl, hSt, hP⟩ := hv
  have hx := B.exec
  have hb := B.bytes
  have hr := B.returns
  have hts := atoms_spec (ws := .code yX11_span cX11_span 6 (some FieldType.int) :: gb_wA) B.pre
  have hq : ∀ w ∈ gb_wA, w.before _ s = true := fun w h => hts w (List.mem_cons_of_mem _ h)
  have hown : s.vm.findClass RX11 = some m.cls := findClass_of_methodNamed B.named
  have hlocks := B.notSynchronized
  have hK := hSt.1
  have hS : va_S (gb_fr b 135) s.heap s.heap [] := va_S.rf
  have hl := lv_entry ([.ref (b + 0), .int p1, .int p2, .int p3, .int p4]) (n := 6) (Nat.le_of_ble_eq_true rfl)
  rw [lg_entry_eq]
  generalize (lg_sl ([.ref (b + 0), .int p1, .int p2, .int p3, .int p4]) ++ List.replicate (6 - (lg_sl ([.ref (b + 0), .int p1, .int p2, .int p3, .int p4])).length) Slot.unset).toArray = ls at hl ⊢
  have hl : lv_has ls 6 [(0, .ref (b + 0)), (1, .int p1), (2, .int p2), (3, .int p3), (4, .int p4)] := hl
  refine lv_aload_n hx hb dX11_span_0 rfl (lv_at hl 0 rfl) ?_
  refine lv_iload_n hx hb dX11_span_1 rfl (lv_at hl 1 rfl) ?_
  refine gb_callq (va_runV (C := RX11) (As := [.int p1]) (rest := []) ⟨hx, hb, hml, hown, hq⟩ (f_X11_borderAt l D cT tt b1 b hb1 p1) (cwV 1 hq (gb_gV w_593 w_595 s_1_7 w_1 w_596) rfl rfl rfl (by decide +kernel) ⟨Nat.le_of_ble_eq_true rfl, Nat.le_of_ble_eq_true rfl⟩) (gb_preV (r := (RX11, TX11, 10)) (ci := 9) (q0 := 0) hSt hP rfl (gb_at b rfl) hS (fun q h => Nat.le_trans hb1 h.1) hP) rfl rfl hl.1 rfl (lv_room (Nat.le_of_ble_eq_true rfl)) dX11_span_2 ⟨Nat.le_of_ble_eq_true rfl, Nat.le_of_ble_eq_true rfl⟩) hS (fun _ h => h) (fun _ h => h) (fun r H locs hY hk hS => ?_)
  obtain ⟨hr9, hP⟩ := hY
  subst hr9
  refine W.eq (g2 := F0 m 5 ls [.null]) rfl ?_
  refine lv_astoreN (lv' := [(5, .null), (0, .ref (b + 0)), (1, .int p1), (2, .int p2), (3, .int p3), (4, .int p4)]) hx hb dX11_span_5 hl (by decide) rfl (fun ls hl => ?_)
  refine lv_aloadN hx hb dX11_span_7 (lv_at hl 0 rfl) ?_
  refine lv_ifnullN (tgt := 34) hx hb dX11_span_9 (by decide) ?_
  refine lv_iconst (v := (-1)) hx hb dX11_span_34 (by decide) ?_
  exact W.iret (v := (-1)) hx hb hr (fun t ht hW => gb_ri ht rfl hS) hS.2.2 dX11_span_35
theorem dX11_split_0 : decode cX11_split 0 = .ok (.aload_n 0, 1) := by decide +kernel
theorem dX11_split_1 : decode cX11_split 1 = .ok (.iload_n 1, 1) := by decide +kernel
theorem dX11_split_2 : decode cX11_split 2 = .ok (.invokevirtual 113, 3) := by decide +kernel
theorem dX11_split_5 : decode cX11_split 5 = .ok (.astore 5, 2) := by decide +kernel
theorem dX11_split_7 : decode cX11_split 7 = .ok (.aload 5, 2) := by decide +kernel
theorem dX11_split_9 : decode cX11_split 9 = .ok (.ifnull 26, 3) := by decide +kernel
theorem dX11_split_35 : decode cX11_split 35 = .ok (.iconst (-1), 1) := by decide +kernel
theorem dX11_split_36 : decode cX11_split 36 = .ok (.ireturn, 1) := by decide +kernel
set_option maxHeartbeats 4000000 in
set_option maxRecDepth 100000 in
theorem a_X11_split (l : Launch) (D : va_G) (cT : Nat → ClassId) (tt : Nat → Nat) (b1 b : Nat) (hb1 : b1 ≤ b) (p1 : Int32) (p2 : Int32) (p3 : Int32) (p4 : Int32) : Met l yX11_split (.code yX11_split cX11_split 7 (some FieldType.int) :: gb_wA) ({ frames := 1, cells := 0, slots := 0, locals := 21 }) (gb_Pc D cT tt b1 [.ref (b + 0), .int p1, .int p2, .int p3, .int p4] (fun h => va_P D vwCl (gb_wl b (gb_C cT b)) h)) (gb_Qi (fun r _ => r = (-1)) (gb_fr b 135)) 0 0 (gb_fr b 135) := by
  refine Met.ofW (cc := cX11_split) (maxL := 7) (ret := (some FieldType.int)) (by decide) rfl ?_
  intro p e s m args below meth c s₁ B hml hv
  obtain ⟨rfl, hSt, hP⟩ := hv
  have hx := B.exec
  have hb := B.bytes
  have hr := B.returns
  have hts := atoms_spec (ws := .code yX11_split cX11_split 7 (some FieldType.int) :: gb_wA) B.pre
  have hq : ∀ w ∈ gb_wA, w.before _ s = true := fun w h => hts w (List.mem_cons_of_mem _ h)
  have hown : s.vm.findClass RX11 = some m.cls := findClass_of_methodNamed B.named
  have hlocks := B.notSynchronized
  have hK := hSt.1
  have hS : va_S (gb_fr b 135) s.heap s.heap [] := va_S.rf
  have hl := lv_entry ([.ref (b + 0), .int p1, .int p2, .int p3, .int p4]) (n := 7) (Nat.le_of_ble_eq_true rfl)
  rw [lg_entry_eq]
  generalize (lg_sl ([.ref (b + 0), .int p1, .int p2, .int p3, .int p4]) ++ List.replicate (7 - (lg_sl ([.ref (b + 0), .int p1, .int p2, .int p3, .int p4])).length) Slot.unset).toArray = ls at hl ⊢
  have hl : lv_has ls 7 [(0, .ref (b + 0)), (1, .int p1), (2, .int p2), (3, .int p3), (4, .int p4)] := hl
  refine lv_aload_n hx hb dX11_split_0 rfl (lv_at hl 0 rfl) ?_
  refine lv_iload_n hx hb dX11_split_1 rfl (lv_at hl 1 rfl) ?_
  refine gb_callq (va_runV (C := RX11) (As := [.int p1]) (rest := []) ⟨hx, hb, hml, hown, hq⟩ (f_X11_borderAt l D cT tt b1 b hb1 p1) (cwV 1 hq (gb_gV w_593 w_595 s_1_7 w_1 w_596) rfl rfl rfl (by decide +kernel) ⟨Nat.le_of_ble_eq_true rfl, Nat.le_of_ble_eq_true rfl⟩) (gb_preV (r := (RX11, TX11, 10)) (ci := 9) (q0 := 0) hSt hP rfl (gb_at b rfl) hS (fun q h => Nat.le_trans hb1 h.1) hP) rfl rfl hl.1 rfl (lv_room (Nat.le_of_ble_eq_true rfl)) dX11_split_2 ⟨Nat.le_of_ble_eq_true rfl, Nat.le_of_ble_eq_true rfl⟩) hS (fun _ h => h) (fun _ h => h) (fun r H locs hY hk hS => ?_)
  obtain ⟨hr9, hP⟩ := hY
  subst hr9
  refine W.eq (g2 := F0 m 5 ls [.null]) rfl ?_
  refine lv_astoreN (lv' := [(5, .null), (0, .ref (b + 0)), (1, .int p1), (2, .int p2), (3, .int p3), (4, .int p4)]) hx hb dX11_split_5 hl (by decide) rfl (fun ls hl => ?_)
  refine lv_aloadN hx hb dX11_split_7 (lv_at hl 0 rfl) ?_
  refine lv_ifnullN (tgt := 35) hx hb dX11_split_9 (by decide) ?_
  refine lv_iconst (v := (-1)) hx hb dX11_split_35 (by decide) ?_
  exact W.iret (v := (-1)) hx hb hr (fun t ht hW => gb_ri ht rfl hS) hS.2.2 dX11_split_36
theorem dX11_backs_0 : decode cX11_backs 0 = .ok (.aload_n 0, 1) := by decide +kernel
theorem dX11_backs_1 : decode cX11_backs 1 = .ok (.iload_n 1, 1) := by decide +kernel
theorem dX11_backs_2 : decode cX11_backs 2 = .ok (.invokevirtual 113, 3) := by decide +kernel
theorem dX11_backs_5 : decode cX11_backs 5 = .ok (.astore 5, 2) := by decide +kernel
theorem dX11_backs_7 : decode cX11_backs 7 = .ok (.aload 5, 2) := by decide +kernel
theorem dX11_backs_9 : decode cX11_backs 9 = .ok (.ifnull 23, 3) := by decide +kernel
theorem dX11_backs_32 : decode cX11_backs 32 = .ok (.iconst (-1), 1) := by decide +kernel
theorem dX11_backs_33 : decode cX11_backs 33 = .ok (.ireturn, 1) := by decide +kernel
set_option maxHeartbeats 4000000 in
set_option maxRecDepth 100000 in
theorem a_X11_backs (l : Launch) (D : va_G) (cT : Nat → ClassId) (tt : Nat → Nat) (b1 b : Nat) (hb1 : b1 ≤ b) (p1 : Int32) (p2 : Int32) (p3 : Int32) (p4 : Int32) : Met l yX11_backs (.code yX11_backs cX11_backs 7 (some FieldType.int) :: gb_wA) ({ frames := 1, cells := 0, slots := 0, locals := 21 }) (gb_Pc D cT tt b1 [.ref (b + 0), .int p1, .int p2, .int p3, .int p4] (fun h => va_P D vwCl (gb_wl b (gb_C cT b)) h)) (gb_Qi (fun r _ => r = (-1)) (gb_fr b 135)) 0 0 (gb_fr b 135) := by
  refine Met.ofW (cc := cX11_backs) (maxL := 7) (ret := (some FieldType.int)) (by decide) rfl ?_
  intro p e s m args below meth c s₁ B hml hv
  obtain ⟨rfl, hSt, hP⟩ := hv
  have hx := B.exec
  have hb := B.bytes
  have hr := B.returns
  have hts := atoms_spec (ws := .code yX11_backs cX11_backs 7 (some FieldType.int) :: gb_wA) B.pre
  have hq : ∀ w ∈ gb_wA, w.before _ s = true := fun w h => hts w (List.mem_cons_of_mem _ h)
  have hown : s.vm.findClass RX11 = some m.cls := findClass_of_methodNamed B.named
  have hlocks := B.notSynchronized
  have hK := hSt.1
  have hS : va_S (gb_fr b 135) s.heap s.heap [] := va_S.rf
  have hl := lv_entry ([.ref (b + 0), .int p1, .int p2, .int p3, .int p4]) (n := 7) (Nat.le_of_ble_eq_true rfl)
  rw [lg_entry_eq]
  generalize (lg_sl ([.ref (b + 0), .int p1, .int p2, .int p3, .int p4]) ++ List.replicate (7 - (lg_sl ([.ref (b + 0), .int p1, .int p2, .int p3, .int p4])).length) Slot.unset).toArray = ls at hl ⊢
  have hl : lv_has ls 7 [(0, .ref (b + 0)), (1, .int p1), (2, .int p2), (3, .int p3), (4, .int p4)] := hl
  refine lv_aload_n hx hb dX11_backs_0 rfl (lv_at hl 0 rfl) ?_
  refine lv_iload_n hx hb dX11_backs_1 rfl (lv_at hl 1 rfl) ?_
  refine gb_callq (va_runV (C := RX11) (As := [.int p1]) (rest := []) ⟨hx, hb, hml, hown, hq⟩ (f_X11_borderAt l D cT tt b1 b hb1 p1) (cwV 1 hq (gb_gV w_593 w_595 s_1_7 w_1 w_596) rfl rfl rfl (by decide +kernel) ⟨Nat.le_of_ble_eq_true rfl, Nat.le_of_ble_eq_true rfl⟩) (gb_preV (r := (RX11, TX11, 10)) (ci := 9) (q0 := 0) hSt hP rfl (gb_at b rfl) hS (fun q h => Nat.le_trans hb1 h.1) hP) rfl rfl hl.1 rfl (lv_room (Nat.le_of_ble_eq_true rfl)) dX11_backs_2 ⟨Nat.le_of_ble_eq_true rfl, Nat.le_of_ble_eq_true rfl⟩) hS (fun _ h => h) (fun _ h => h) (fun r H locs hY hk hS => ?_)
  obtain ⟨hr9, hP⟩ := hY
  subst hr9
  refine W.eq (g2 := F0 m 5 ls [.null]) rfl ?_
  refine lv_astoreN (lv' := [(5, .null), (0, .ref (b + 0)), (1, .int p1), (2, .int p2), (3, .int p3), (4, .int p4)]) hx hb dX11_backs_5 hl (by decide) rfl (fun ls hl => ?_)
  refine lv_aloadN hx hb dX11_backs_7 (lv_at hl 0 rfl) ?_
  refine lv_ifnullN (tgt := 32) hx hb dX11_backs_9 (by decide) ?_
  refine lv_iconst (v := (-1)) hx hb dX11_backs_32 (by decide) ?_
  exact W.iret (v := (-1)) hx hb hr (fun t ht hW => gb_ri ht rfl hS) hS.2.2 dX11_backs_33
theorem dX11_near_0 : decode cX11_near 0 = .ok (.aload_n 0, 1) := by decide +kernel
theorem dX11_near_1 : decode cX11_near 1 = .ok (.iload_n 1, 1) := by decide +kernel
theorem dX11_near_2 : decode cX11_near 2 = .ok (.invokevirtual 113, 3) := by decide +kernel
theorem dX11_near_5 : decode cX11_near 5 = .ok (.astore 4, 2) := by decide +kernel
theorem dX11_near_7 : decode cX11_near 7 = .ok (.aload_n 0, 1) := by decide +kernel
theorem dX11_near_8 : decode cX11_near 8 = .ok (.iload_n 2, 1) := by decide +kernel
theorem dX11_near_9 : decode cX11_near 9 = .ok (.invokevirtual 160, 3) := by decide +kernel
theorem dX11_near_12 : decode cX11_near 12 = .ok (.astore 5, 2) := by decide +kernel
theorem dX11_near_14 : decode cX11_near 14 = .ok (.aload 4, 2) := by decide +kernel
theorem dX11_near_16 : decode cX11_near 16 = .ok (.ifnull 35, 3) := by decide +kernel
theorem dX11_near_51 : decode cX11_near 51 = .ok (.iconst (-1), 1) := by decide +kernel
theorem dX11_near_52 : decode cX11_near 52 = .ok (.ireturn, 1) := by decide +kernel
set_option maxHeartbeats 4000000 in
set_option maxRecDepth 100000 in
theorem a_X11_near (l : Launch) (D : va_G) (cT : Nat → ClassId) (tt : Nat → Nat) (b1 b : Nat) (hb1 : b1 ≤ b) (p1 : Int32) (p2 : Int32) (p3 : Int32) : Met l yX11_near (.code yX11_near cX11_near 6 (some FieldType.int) :: gb_wA) ({ frames := 1, cells := 0, slots := 0, locals := 21 }) (gb_Pc D cT tt b1 [.ref (b + 0), .int p1, .int p2, .int p3] (fun h => va_P D vwCl (gb_wl b (gb_C cT b)) h)) (gb_Qi (fun r _ => r = (-1)) (gb_fr b 135)) 0 0 (gb_fr b 135) := by
  refine Met.ofW (cc := cX11_near) (maxL := 6) (ret := (some FieldType.int)) (by decide) rfl ?_
  intro p e s m args below meth c s₁ B hml hv
  obtain ⟨rfl, hSt, hP⟩ := hv
  have hx := B.exec
  have hb := B.bytes
  have hr := B.returns
  have hts := atoms_spec (ws := .code yX11_near cX11_near 6 (some FieldType.int) :: gb_wA) B.pre
  have hq : ∀ w ∈ gb_wA, w.before _ s = true := fun w h => hts w (List.mem_cons_of_mem _ h)
  have hown : s.vm.findClass RX11 = some m.cls := findClass_of_methodNamed B.named
  have hlocks := B.notSynchronized
  have hK := hSt.1
  have hS : va_S (gb_fr b 135) s.heap s.heap [] := va_S.rf
  have hl := lv_entry ([.ref (b + 0), .int p1, .int p2, .int p3]) (n := 6) (Nat.le_of_ble_eq_true rfl)
  rw [lg_entry_eq]
  generalize (lg_sl ([.ref (b + 0), .int p1, .int p2, .int p3]) ++ List.replicate (6 - (lg_sl ([.ref (b + 0), .int p1, .int p2, .int p3])).length) Slot.unset).toArray = ls at hl ⊢
  have hl : lv_has ls 6 [(0, .ref (b + 0)), (1, .int p1), (2, .int p2), (3, .int p3)] := hl
  refine lv_aload_n hx hb dX11_near_0 rfl (lv_at hl 0 rfl) ?_
  refine lv_iload_n hx hb dX11_near_1 rfl (lv_at hl 1 rfl) ?_
  refine gb_callq (va_runV (C := RX11) (As := [.int p1]) (rest := []) ⟨hx, hb, hml, hown, hq⟩ (f_X11_borderAt l D cT tt b1 b hb1 p1) (cwV 1 hq (gb_gV w_593 w_595 s_1_7 w_1 w_596) rfl rfl rfl (by decide +kernel) ⟨Nat.le_of_ble_eq_true rfl, Nat.le_of_ble_eq_true rfl⟩) (gb_preV (r := (RX11, TX11, 10)) (ci := 9) (q0 := 0) hSt hP rfl (gb_at b rfl) hS (fun q h => Nat.le_trans hb1 h.1) hP) rfl rfl hl.1 rfl (lv_room (Nat.le_of_ble_eq_true rfl)) dX11_near_2 ⟨Nat.le_of_ble_eq_true rfl, Nat.le_of_ble_eq_true rfl⟩) hS (fun _ h => h) (fun _ h => h) (fun r H locs hY hk hS => ?_)
  obtain ⟨hr9, hP⟩ := hY
  subst hr9
  refine W.eq (g2 := F0 m 5 ls [.null]) rfl ?_
  refine lv_astoreN (lv' := [(4, .null), (0, .ref (b + 0)), (1, .int p1), (2, .int p2), (3, .int p3)]) hx hb dX11_near_5 hl (by decide) rfl (fun ls hl => ?_)
  refine lv_aload_n hx hb dX11_near_7 rfl (lv_at hl 1 rfl) ?_
  refine lv_iload_n hx hb dX11_near_8 rfl (lv_at hl 3 rfl) ?_
  refine gb_callq (va_runV (C := RX11) (As := [.int p2]) (rest := []) ⟨hx, hb, hml, hown, hq⟩ (f_X11_dawnAt l D cT tt b1 b hb1 p2) (cwV 1 hq (gb_gV w_667 w_669 s_1_10 w_1 w_670) rfl rfl rfl (by decide +kernel) ⟨Nat.le_of_ble_eq_true rfl, Nat.le_of_ble_eq_true rfl⟩) (gb_preV (r := (RX11, TX11, 10)) (ci := 9) (q0 := 0) hSt hP rfl (gb_at b rfl) hS (fun q h => Nat.le_trans hb1 h.1) hP) rfl rfl hl.1 rfl (lv_room (Nat.le_of_ble_eq_true rfl)) dX11_near_9 ⟨Nat.le_of_ble_eq_true rfl, Nat.le_of_ble_eq_true rfl⟩) hS (fun _ h => h) (fun _ h => h) (fun r H locs hY hk hS => ?_)
  obtain ⟨hr9, hP⟩ := hY
  subst hr9
  refine W.eq (g2 := F0 m 12 ls [.null]) rfl ?_
  refine lv_astoreN (lv' := [(5, .null), (4, .null), (0, .ref (b + 0)), (1, .int p1), (2, .int p2), (3, .int p3)]) hx hb dX11_near_12 hl (by decide) rfl (fun ls hl => ?_)
  refine lv_aloadN hx hb dX11_near_14 (lv_at hl 1 rfl) ?_
  refine lv_ifnullN (tgt := 51) hx hb dX11_near_16 (by decide) ?_
  refine lv_iconst (v := (-1)) hx hb dX11_near_51 (by decide) ?_
  exact W.iret (v := (-1)) hx hb hr (fun t ht hW => gb_ri ht rfl hS) hS.2.2 dX11_near_52
theorem dX11_thrift_0 : decode cX11_thrift 0 = .ok (.aload_n 0, 1) := by decide +kernel
theorem dX11_thrift_1 : decode cX11_thrift 1 = .ok (.iload_n 1, 1) := by decide +kernel
theorem dX11_thrift_2 : decode cX11_thrift 2 = .ok (.invokevirtual 113, 3) := by decide +kernel
theorem dX11_thrift_5 : decode cX11_thrift 5 = .ok (.astore_n 2, 1) := by decide +kernel
theorem dX11_thrift_6 : decode cX11_thrift 6 = .ok (.aload_n 2, 1) := by decide +kernel
theorem dX11_thrift_7 : decode cX11_thrift 7 = .ok (.ifnonnull 7, 3) := by decide +kernel
theorem dX11_thrift_10 : decode cX11_thrift 10 = .ok (.iconst (-1), 1) := by decide +kernel
theorem dX11_thrift_11 : decode cX11_thrift 11 = .ok (.goto 11, 3) := by decide +kernel
theorem dX11_thrift_22 : decode cX11_thrift 22 = .ok (.ireturn, 1) := by decide +kernel
set_option maxHeartbeats 4000000 in
set_option maxRecDepth 100000 in
theorem a_X11_thrift (l : Launch) (D : va_G) (cT : Nat → ClassId) (tt : Nat → Nat) (b1 b : Nat) (hb1 : b1 ≤ b) (p1 : Int32) : Met l yX11_thrift (.code yX11_thrift cX11_thrift 3 (some FieldType.int) :: gb_wA) ({ frames := 1, cells := 0, slots := 0, locals := 21 }) (gb_Pc D cT tt b1 [.ref (b + 0), .int p1] (fun h => va_P D vwCl (gb_wl b (gb_C cT b)) h)) (gb_Qi (fun r _ => r = (-1)) (gb_fr b 135)) 0 0 (gb_fr b 135) := by
  refine Met.ofW (cc := cX11_thrift) (maxL := 3) (ret := (some FieldType.int)) (by decide) rfl ?_
  intro p e s m args below meth c s₁ B hml hv
  obtain ⟨rfl, hSt, hP⟩ := hv
  have hx := B.exec
  have hb := B.bytes
  have hr := B.returns
  have hts := atoms_spec (ws := .code yX11_thrift cX11_thrift 3 (some FieldType.int) :: gb_wA) B.pre
  have hq : ∀ w ∈ gb_wA, w.before _ s = true := fun w h => hts w (List.mem_cons_of_mem _ h)
  have hown : s.vm.findClass RX11 = some m.cls := findClass_of_methodNamed B.named
  have hlocks := B.notSynchronized
  have hK := hSt.1
  have hS : va_S (gb_fr b 135) s.heap s.heap [] := va_S.rf
  have hl := lv_entry ([.ref (b + 0), .int p1]) (n := 3) (Nat.le_of_ble_eq_true rfl)
  rw [lg_entry_eq]
  generalize (lg_sl ([.ref (b + 0), .int p1]) ++ List.replicate (3 - (lg_sl ([.ref (b + 0), .int p1])).length) Slot.unset).toArray = ls at hl ⊢
  have hl : lv_has ls 3 [(0, .ref (b + 0)), (1, .int p1)] := hl
  refine lv_aload_n hx hb dX11_thrift_0 rfl (lv_at hl 0 rfl) ?_
  refine lv_iload_n hx hb dX11_thrift_1 rfl (lv_at hl 1 rfl) ?_
  refine gb_callq (va_runV (C := RX11) (As := [.int p1]) (rest := []) ⟨hx, hb, hml, hown, hq⟩ (f_X11_borderAt l D cT tt b1 b hb1 p1) (cwV 1 hq (gb_gV w_593 w_595 s_1_7 w_1 w_596) rfl rfl rfl (by decide +kernel) ⟨Nat.le_of_ble_eq_true rfl, Nat.le_of_ble_eq_true rfl⟩) (gb_preV (r := (RX11, TX11, 10)) (ci := 9) (q0 := 0) hSt hP rfl (gb_at b rfl) hS (fun q h => Nat.le_trans hb1 h.1) hP) rfl rfl hl.1 rfl (lv_room (Nat.le_of_ble_eq_true rfl)) dX11_thrift_2 ⟨Nat.le_of_ble_eq_true rfl, Nat.le_of_ble_eq_true rfl⟩) hS (fun _ h => h) (fun _ h => h) (fun r H locs hY hk hS => ?_)
  obtain ⟨hr9, hP⟩ := hY
  subst hr9
  refine W.eq (g2 := F0 m 5 ls [.null]) rfl ?_
  refine lv_astore_nN (lv' := [(2, .null), (0, .ref (b + 0)), (1, .int p1)]) hx hb dX11_thrift_5 rfl hl (by decide) rfl (fun ls hl => ?_)
  refine lv_aload_nN hx hb dX11_thrift_6 rfl (lv_at hl 0 rfl) ?_
  refine lv_ifnonnullN hx hb dX11_thrift_7 ?_
  refine lv_iconst (v := (-1)) hx hb dX11_thrift_10 (by decide) ?_
  refine lv_goto (tgt := 22) hx hb dX11_thrift_11 (by decide) ?_
  exact W.iret (v := (-1)) hx hb hr (fun t ht hW => gb_ri ht rfl hS) hS.2.2 dX11_thrift_22
theorem dX11_told_0 : decode cX11_told 0 = .ok (.aload_n 0, 1) := by decide +kernel
theorem dX11_told_1 : decode cX11_told 1 = .ok (.iload_n 1, 1) := by decide +kernel
theorem dX11_told_2 : decode cX11_told 2 = .ok (.invokevirtual 113, 3) := by decide +kernel
theorem dX11_told_5 : decode cX11_told 5 = .ok (.astore 4, 2) := by decide +kernel
theorem dX11_told_7 : decode cX11_told 7 = .ok (.aload_n 0, 1) := by decide +kernel
theorem dX11_told_8 : decode cX11_told 8 = .ok (.iload_n 2, 1) := by decide +kernel
theorem dX11_told_9 : decode cX11_told 9 = .ok (.invokevirtual 160, 3) := by decide +kernel
theorem dX11_told_12 : decode cX11_told 12 = .ok (.astore 5, 2) := by decide +kernel
theorem dX11_told_14 : decode cX11_told 14 = .ok (.aload 4, 2) := by decide +kernel
theorem dX11_told_16 : decode cX11_told 16 = .ok (.ifnull 8, 3) := by decide +kernel
theorem dX11_told_24 : decode cX11_told 24 = .ok (.bipush (-2), 2) := by decide +kernel
theorem dX11_told_26 : decode cX11_told 26 = .ok (.ireturn, 1) := by decide +kernel
set_option maxHeartbeats 4000000 in
set_option maxRecDepth 100000 in
theorem a_X11_told (l : Launch) (D : va_G) (cT : Nat → ClassId) (tt : Nat → Nat) (b1 b : Nat) (hb1 : b1 ≤ b) (p1 : Int32) (p2 : Int32) (p3 : Int32) : Met l yX11_told (.code yX11_told cX11_told 7 (some FieldType.int) :: gb_wA) ({ frames := 1, cells := 0, slots := 0, locals := 21 }) (gb_Pc D cT tt b1 [.ref (b + 0), .int p1, .int p2, .int p3] (fun h => va_P D vwCl (gb_wl b (gb_C cT b)) h)) (gb_Qi (fun r _ => r = (-2)) (gb_fr b 135)) 0 0 (gb_fr b 135) := by
  refine Met.ofW (cc := cX11_told) (maxL := 7) (ret := (some FieldType.int)) (by decide) rfl ?_
  intro p e s m args below meth c s₁ B hml hv
  obtain ⟨rfl, hSt, hP⟩ := hv
  have hx := B.exec
  have hb := B.bytes
  have hr := B.returns
  have hts := atoms_spec (ws := .code yX11_told cX11_told 7 (some FieldType.int) :: gb_wA) B.pre
  have hq : ∀ w ∈ gb_wA, w.before _ s = true := fun w h => hts w (List.mem_cons_of_mem _ h)
  have hown : s.vm.findClass RX11 = some m.cls := findClass_of_methodNamed B.named
  have hlocks := B.notSynchronized
  have hK := hSt.1
  have hS : va_S (gb_fr b 135) s.heap s.heap [] := va_S.rf
  have hl := lv_entry ([.ref (b + 0), .int p1, .int p2, .int p3]) (n := 7) (Nat.le_of_ble_eq_true rfl)
  rw [lg_entry_eq]
  generalize (lg_sl ([.ref (b + 0), .int p1, .int p2, .int p3]) ++ List.replicate (7 - (lg_sl ([.ref (b + 0), .int p1, .int p2, .int p3])).length) Slot.unset).toArray = ls at hl ⊢
  have hl : lv_has ls 7 [(0, .ref (b + 0)), (1, .int p1), (2, .int p2), (3, .int p3)] := hl
  refine lv_aload_n hx hb dX11_told_0 rfl (lv_at hl 0 rfl) ?_
  refine lv_iload_n hx hb dX11_told_1 rfl (lv_at hl 1 rfl) ?_
  refine gb_callq (va_runV (C := RX11) (As := [.int p1]) (rest := []) ⟨hx, hb, hml, hown, hq⟩ (f_X11_borderAt l D cT tt b1 b hb1 p1) (cwV 1 hq (gb_gV w_593 w_595 s_1_7 w_1 w_596) rfl rfl rfl (by decide +kernel) ⟨Nat.le_of_ble_eq_true rfl, Nat.le_of_ble_eq_true rfl⟩) (gb_preV (r := (RX11, TX11, 10)) (ci := 9) (q0 := 0) hSt hP rfl (gb_at b rfl) hS (fun q h => Nat.le_trans hb1 h.1) hP) rfl rfl hl.1 rfl (lv_room (Nat.le_of_ble_eq_true rfl)) dX11_told_2 ⟨Nat.le_of_ble_eq_true rfl, Nat.le_of_ble_eq_true rfl⟩) hS (fun _ h => h) (fun _ h => h) (fun r H locs hY hk hS => ?_)
  obtain ⟨hr9, hP⟩ := hY
  subst hr9
  refine W.eq (g2 := F0 m 5 ls [.null]) rfl ?_
  refine lv_astoreN (lv' := [(4, .null), (0, .ref (b + 0)), (1, .int p1), (2, .int p2), (3, .int p3)]) hx hb dX11_told_5 hl (by decide) rfl (fun ls hl => ?_)
  refine lv_aload_n hx hb dX11_told_7 rfl (lv_at hl 1 rfl) ?_
  refine lv_iload_n hx hb dX11_told_8 rfl (lv_at hl 3 rfl) ?_
  refine gb_callq (va_runV (C := RX11) (As := [.int p2]) (rest := []) ⟨hx, hb, hml, hown, hq⟩ (f_X11_dawnAt l D cT tt b1 b hb1 p2) (cwV 1 hq (gb_gV w_667 w_669 s_1_10 w_1 w_670) rfl rfl rfl (by decide +kernel) ⟨Nat.le_of_ble_eq_true rfl, Nat.le_of_ble_eq_true rfl⟩) (gb_preV (r := (RX11, TX11, 10)) (ci := 9) (q0 := 0) hSt hP rfl (gb_at b rfl) hS (fun q h => Nat.le_trans hb1 h.1) hP) rfl rfl hl.1 rfl (lv_room (Nat.le_of_ble_eq_true rfl)) dX11_told_9 ⟨Nat.le_of_ble_eq_true rfl, Nat.le_of_ble_eq_true rfl⟩) hS (fun _ h => h) (fun _ h => h) (fun r H locs hY hk hS => ?_)
  obtain ⟨hr9, hP⟩ := hY
  subst hr9
  refine W.eq (g2 := F0 m 12 ls [.null]) rfl ?_
  refine lv_astoreN (lv' := [(5, .null), (4, .null), (0, .ref (b + 0)), (1, .int p1), (2, .int p2), (3, .int p3)]) hx hb dX11_told_12 hl (by decide) rfl (fun ls hl => ?_)
  refine lv_aloadN hx hb dX11_told_14 (lv_at hl 1 rfl) ?_
  refine lv_ifnullN (tgt := 24) hx hb dX11_told_16 (by decide) ?_
  refine lv_bipush (v := (-2)) hx hb dX11_told_24 (by decide) ?_
  exact W.iret (v := (-2)) hx hb hr (fun t ht hW => gb_ri ht rfl hS) hS.2.2 dX11_told_26
theorem dX11_drawn_0 : decode cX11_drawn 0 = .ok (.aload_n 0, 1) := by decide +kernel
theorem dX11_drawn_1 : decode cX11_drawn 1 = .ok (.iload_n 1, 1) := by decide +kernel
theorem dX11_drawn_2 : decode cX11_drawn 2 = .ok (.invokevirtual 113, 3) := by decide +kernel
theorem dX11_drawn_5 : decode cX11_drawn 5 = .ok (.astore 5, 2) := by decide +kernel
theorem dX11_drawn_7 : decode cX11_drawn 7 = .ok (.aload 5, 2) := by decide +kernel
theorem dX11_drawn_9 : decode cX11_drawn 9 = .ok (.ifnull 32, 3) := by decide +kernel
theorem dX11_drawn_41 : decode cX11_drawn 41 = .ok (.iconst (-1), 1) := by decide +kernel
theorem dX11_drawn_42 : decode cX11_drawn 42 = .ok (.ireturn, 1) := by decide +kernel
set_option maxHeartbeats 4000000 in
set_option maxRecDepth 100000 in
theorem a_X11_drawn (l : Launch) (D : va_G) (cT : Nat → ClassId) (tt : Nat → Nat) (b1 b : Nat) (hb1 : b1 ≤ b) (p1 : Int32) (p2 : Int32) (p3 : Int32) (p4 : Int32) : Met l yX11_drawn (.code yX11_drawn cX11_drawn 8 (some FieldType.int) :: gb_wA) ({ frames := 1, cells := 0, slots := 0, locals := 21 }) (gb_Pc D cT tt b1 [.ref (b + 0), .int p1, .int p2, .int p3, .int p4] (fun h => va_P D vwCl (gb_wl b (gb_C cT b)) h)) (gb_Qi (fun r _ => r = (-1)) (gb_fr b 135)) 0 0 (gb_fr b 135) := by
  refine Met.ofW (cc := cX11_drawn) (maxL := 8) (ret := (some FieldType.int)) (by decide) rfl ?_
  intro p e s m args below meth c s₁ B hml hv
  obtain ⟨rfl, hSt, hP⟩ := hv
  have hx := B.exec
  have hb := B.bytes
  have hr := B.returns
  have hts := atoms_spec (ws := .code yX11_drawn cX11_drawn 8 (some FieldType.int) :: gb_wA) B.pre
  have hq : ∀ w ∈ gb_wA, w.before _ s = true := fun w h => hts w (List.mem_cons_of_mem _ h)
  have hown : s.vm.findClass RX11 = some m.cls := findClass_of_methodNamed B.named
  have hlocks := B.notSynchronized
  have hK := hSt.1
  have hS : va_S (gb_fr b 135) s.heap s.heap [] := va_S.rf
  have hl := lv_entry ([.ref (b + 0), .int p1, .int p2, .int p3, .int p4]) (n := 8) (Nat.le_of_ble_eq_true rfl)
  rw [lg_entry_eq]
  generalize (lg_sl ([.ref (b + 0), .int p1, .int p2, .int p3, .int p4]) ++ List.replicate (8 - (lg_sl ([.ref (b + 0), .int p1, .int p2, .int p3, .int p4])).length) Slot.unset).toArray = ls at hl ⊢
  have hl : lv_has ls 8 [(0, .ref (b + 0)), (1, .int p1), (2, .int p2), (3, .int p3), (4, .int p4)] := hl
  refine lv_aload_n hx hb dX11_drawn_0 rfl (lv_at hl 0 rfl) ?_
  refine lv_iload_n hx hb dX11_drawn_1 rfl (lv_at hl 1 rfl) ?_
  refine gb_callq (va_runV (C := RX11) (As := [.int p1]) (rest := []) ⟨hx, hb, hml, hown, hq⟩ (f_X11_borderAt l D cT tt b1 b hb1 p1) (cwV 1 hq (gb_gV w_593 w_595 s_1_7 w_1 w_596) rfl rfl rfl (by decide +kernel) ⟨Nat.le_of_ble_eq_true rfl, Nat.le_of_ble_eq_true rfl⟩) (gb_preV (r := (RX11, TX11, 10)) (ci := 9) (q0 := 0) hSt hP rfl (gb_at b rfl) hS (fun q h => Nat.le_trans hb1 h.1) hP) rfl rfl hl.1 rfl (lv_room (Nat.le_of_ble_eq_true rfl)) dX11_drawn_2 ⟨Nat.le_of_ble_eq_true rfl, Nat.le_of_ble_eq_true rfl⟩) hS (fun _ h => h) (fun _ h => h) (fun r H locs hY hk hS => ?_)
  obtain ⟨hr9, hP⟩ := hY
  subst hr9
  refine W.eq (g2 := F0 m 5 ls [.null]) rfl ?_
  refine lv_astoreN (lv' := [(5, .null), (0, .ref (b + 0)), (1, .int p1), (2, .int p2), (3, .int p3), (4, .int p4)]) hx hb dX11_drawn_5 hl (by decide) rfl (fun ls hl => ?_)
  refine lv_aloadN hx hb dX11_drawn_7 (lv_at hl 0 rfl) ?_
  refine lv_ifnullN (tgt := 41) hx hb dX11_drawn_9 (by decide) ?_
  refine lv_iconst (v := (-1)) hx hb dX11_drawn_41 (by decide) ?_
  exact W.iret (v := (-1)) hx hb hr (fun t ht hW => gb_ri ht rfl hS) hS.2.2 dX11_drawn_42
end
