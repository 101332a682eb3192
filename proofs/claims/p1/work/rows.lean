section
-- ===== PART A: goes FIRST, ahead of the names: the tables' words, and 'selects' of the private methods out of them =====
/-- a private method of a class that the tables say can be made, by its rows of tables_1 -/
def lw_okq (q : MethodName × Nat) : Prop := (q.1.cls ≠ "java/lang/invoke/MethodHandle" ∧ q.1.cls ≠ "java/lang/invoke/VarHandle") ∧ Cond.instantiable q.1.cls q.2 ∈ tables_1 ∧ Cond.privateMethod q.1 ∈ tables_1 ∧ Cond.instanceMethod q.1 ∈ tables_1
theorem lw_p0 : lw_okq (⟨"GooseBorder$Reader", "skipBlanks", "()V"⟩, 6) := ⟨⟨by decide +kernel, by decide +kernel⟩, List.mem_of_getElem? (i := 162) (by decide +kernel), List.mem_of_getElem? (i := 381) (by decide +kernel), List.mem_of_getElem? (i := 382) (by decide +kernel)⟩
theorem lw_p1 : lw_okq (⟨"GooseBorder$Reader", "readLine", "(ILGooseBorder$Sheet;)Z"⟩, 6) := ⟨⟨by decide +kernel, by decide +kernel⟩, List.mem_of_getElem? (i := 162) (by decide +kernel), List.mem_of_getElem? (i := 385) (by decide +kernel), List.mem_of_getElem? (i := 386) (by decide +kernel)⟩
theorem lw_p2 : lw_okq (⟨"GooseBorder$Reader", "takeWord", "(I)I"⟩, 6) := ⟨⟨by decide +kernel, by decide +kernel⟩, List.mem_of_getElem? (i := 162) (by decide +kernel), List.mem_of_getElem? (i := 389) (by decide +kernel), List.mem_of_getElem? (i := 390) (by decide +kernel)⟩
theorem lw_p3 : lw_okq (⟨"GooseBorder$Reader", "isWord", "(Ljava/lang/String;I)Z"⟩, 6) := ⟨⟨by decide +kernel, by decide +kernel⟩, List.mem_of_getElem? (i := 162) (by decide +kernel), List.mem_of_getElem? (i := 415) (by decide +kernel), List.mem_of_getElem? (i := 416) (by decide +kernel)⟩
theorem lw_p4 : lw_okq (⟨"GooseBorder$Reader", "note", "(II)V"⟩, 6) := ⟨⟨by decide +kernel, by decide +kernel⟩, List.mem_of_getElem? (i := 162) (by decide +kernel), List.mem_of_getElem? (i := 493) (by decide +kernel), List.mem_of_getElem? (i := 494) (by decide +kernel)⟩
theorem lw_p5 : lw_okq (⟨"GooseBorder$Reader", "takeNumber", "(II)Z"⟩, 6) := ⟨⟨by decide +kernel, by decide +kernel⟩, List.mem_of_getElem? (i := 162) (by decide +kernel), List.mem_of_getElem? (i := 499) (by decide +kernel), List.mem_of_getElem? (i := 500) (by decide +kernel)⟩
theorem lw_p6 : lw_okq (⟨"GooseBorder$Reader", "canBe", "(III)Z"⟩, 6) := ⟨⟨by decide +kernel, by decide +kernel⟩, List.mem_of_getElem? (i := 162) (by decide +kernel), List.mem_of_getElem? (i := 503) (by decide +kernel), List.mem_of_getElem? (i := 504) (by decide +kernel)⟩
theorem lw_p7 : lw_okq (⟨"GooseBorder", "borderAt", "(I)LGooseBorder$Border;"⟩, 10) := ⟨⟨by decide +kernel, by decide +kernel⟩, List.mem_of_getElem? (i := 23) (by decide +kernel), List.mem_of_getElem? (i := 594) (by decide +kernel), List.mem_of_getElem? (i := 595) (by decide +kernel)⟩
theorem lw_p8 : lw_okq (⟨"GooseBorder", "nightAt", "(I)LGooseBorder$Night;"⟩, 10) := ⟨⟨by decide +kernel, by decide +kernel⟩, List.mem_of_getElem? (i := 23) (by decide +kernel), List.mem_of_getElem? (i := 647) (by decide +kernel), List.mem_of_getElem? (i := 648) (by decide +kernel)⟩
theorem lw_p9 : lw_okq (⟨"GooseBorder", "lawAt", "(I)LGooseBorder$Law;"⟩, 10) := ⟨⟨by decide +kernel, by decide +kernel⟩, List.mem_of_getElem? (i := 23) (by decide +kernel), List.mem_of_getElem? (i := 660) (by decide +kernel), List.mem_of_getElem? (i := 661) (by decide +kernel)⟩
theorem lw_p10 : lw_okq (⟨"GooseBorder", "dawnAt", "(I)LGooseBorder$Dawn;"⟩, 10) := ⟨⟨by decide +kernel, by decide +kernel⟩, List.mem_of_getElem? (i := 23) (by decide +kernel), List.mem_of_getElem? (i := 668) (by decide +kernel), List.mem_of_getElem? (i := 669) (by decide +kernel)⟩
theorem lw_p11 : lw_okq (⟨"GooseBorder", "playedOut", "(LGooseBorder$Border;LGooseBorder$Night;)Z"⟩, 10) := ⟨⟨by decide +kernel, by decide +kernel⟩, List.mem_of_getElem? (i := 23) (by decide +kernel), List.mem_of_getElem? (i := 698) (by decide +kernel), List.mem_of_getElem? (i := 699) (by decide +kernel)⟩
theorem lw_p12 : lw_okq (⟨"GooseBorder$Play", "canBe", "(LGooseBorder$Night;I)Z"⟩, 12) := ⟨⟨by decide +kernel, by decide +kernel⟩, List.mem_of_getElem? (i := 190) (by decide +kernel), List.mem_of_getElem? (i := 720) (by decide +kernel), List.mem_of_getElem? (i := 721) (by decide +kernel)⟩
theorem lw_p13 : lw_okq (⟨"GooseBorder$Play", "stands", "(II)Z"⟩, 12) := ⟨⟨by decide +kernel, by decide +kernel⟩, List.mem_of_getElem? (i := 190) (by decide +kernel), List.mem_of_getElem? (i := 730) (by decide +kernel), List.mem_of_getElem? (i := 731) (by decide +kernel)⟩
theorem lw_p14 : lw_okq (⟨"GooseBorder$Play", "latestGoer", "(I)I"⟩, 12) := ⟨⟨by decide +kernel, by decide +kernel⟩, List.mem_of_getElem? (i := 190) (by decide +kernel), List.mem_of_getElem? (i := 735) (by decide +kernel), List.mem_of_getElem? (i := 736) (by decide +kernel)⟩
theorem lw_p15 : lw_okq (⟨"GooseBorder$Play", "doDeed", "(LGooseBorder$Night;IZ)V"⟩, 12) := ⟨⟨by decide +kernel, by decide +kernel⟩, List.mem_of_getElem? (i := 190) (by decide +kernel), List.mem_of_getElem? (i := 740) (by decide +kernel), List.mem_of_getElem? (i := 741) (by decide +kernel)⟩
def lw_privs_1 : List (MethodName × Nat) := [(⟨"GooseBorder$Reader", "skipBlanks", "()V"⟩, 6), (⟨"GooseBorder$Reader", "readLine", "(ILGooseBorder$Sheet;)Z"⟩, 6), (⟨"GooseBorder$Reader", "takeWord", "(I)I"⟩, 6), (⟨"GooseBorder$Reader", "isWord", "(Ljava/lang/String;I)Z"⟩, 6), (⟨"GooseBorder$Reader", "note", "(II)V"⟩, 6), (⟨"GooseBorder$Reader", "takeNumber", "(II)Z"⟩, 6), (⟨"GooseBorder$Reader", "canBe", "(III)Z"⟩, 6), (⟨"GooseBorder", "borderAt", "(I)LGooseBorder$Border;"⟩, 10), (⟨"GooseBorder", "nightAt", "(I)LGooseBorder$Night;"⟩, 10), (⟨"GooseBorder", "lawAt", "(I)LGooseBorder$Law;"⟩, 10), (⟨"GooseBorder", "dawnAt", "(I)LGooseBorder$Dawn;"⟩, 10), (⟨"GooseBorder", "playedOut", "(LGooseBorder$Border;LGooseBorder$Night;)Z"⟩, 10), (⟨"GooseBorder$Play", "canBe", "(LGooseBorder$Night;I)Z"⟩, 12), (⟨"GooseBorder$Play", "stands", "(II)Z"⟩, 12), (⟨"GooseBorder$Play", "latestGoer", "(I)I"⟩, 12), (⟨"GooseBorder$Play", "doDeed", "(LGooseBorder$Night;IZ)V"⟩, 12)]
theorem lw_r1 : ∀ q ∈ lw_privs_1, lw_okq q := List.forall_mem_cons.mpr ⟨lw_p0, List.forall_mem_cons.mpr ⟨lw_p1, List.forall_mem_cons.mpr ⟨lw_p2, List.forall_mem_cons.mpr ⟨lw_p3, List.forall_mem_cons.mpr ⟨lw_p4, List.forall_mem_cons.mpr ⟨lw_p5, List.forall_mem_cons.mpr ⟨lw_p6, List.forall_mem_cons.mpr ⟨lw_p7, List.forall_mem_cons.mpr ⟨lw_p8, List.forall_mem_cons.mpr ⟨lw_p9, List.forall_mem_cons.mpr ⟨lw_p10, List.forall_mem_cons.mpr ⟨lw_p11, List.forall_mem_cons.mpr ⟨lw_p12, List.forall_mem_cons.mpr ⟨lw_p13, List.forall_mem_cons.mpr ⟨lw_p14, List.forall_mem_cons.mpr ⟨lw_p15, fun _ h => absurd h List.not_mem_nil⟩⟩⟩⟩⟩⟩⟩⟩⟩⟩⟩⟩⟩⟩⟩⟩
theorem lw_p16 : lw_okq (⟨"GooseBorder$Play", "eat", "(I)V"⟩, 12) := ⟨⟨by decide +kernel, by decide +kernel⟩, List.mem_of_getElem? (i := 190) (by decide +kernel), List.mem_of_getElem? (i := 756) (by decide +kernel), List.mem_of_getElem? (i := 757) (by decide +kernel)⟩
theorem lw_p17 : lw_okq (⟨"GooseBorder", "playedTo", "(LGooseBorder$Border;LGooseBorder$Night;I)Z"⟩, 10) := ⟨⟨by decide +kernel, by decide +kernel⟩, List.mem_of_getElem? (i := 23) (by decide +kernel), List.mem_of_getElem? (i := 764) (by decide +kernel), List.mem_of_getElem? (i := 765) (by decide +kernel)⟩
theorem lw_p18 : lw_okq (⟨"GooseBorder$Play", "payBy", "(I)I"⟩, 12) := ⟨⟨by decide +kernel, by decide +kernel⟩, List.mem_of_getElem? (i := 190) (by decide +kernel), List.mem_of_getElem? (i := 817) (by decide +kernel), List.mem_of_getElem? (i := 818) (by decide +kernel)⟩
theorem lw_p19 : lw_okq (⟨"GooseBorder$Play", "payTold", "(II)I"⟩, 12) := ⟨⟨by decide +kernel, by decide +kernel⟩, List.mem_of_getElem? (i := 190) (by decide +kernel), List.mem_of_getElem? (i := 821) (by decide +kernel), List.mem_of_getElem? (i := 822) (by decide +kernel)⟩
theorem lw_p20 : lw_okq (⟨"GooseBorder$Sharing", "begin", "(LGooseBorder$Border;LGooseBorder$Law;I)V"⟩, 11) := ⟨⟨by decide +kernel, by decide +kernel⟩, List.mem_of_getElem? (i := 244) (by decide +kernel), List.mem_of_getElem? (i := 895) (by decide +kernel), List.mem_of_getElem? (i := 896) (by decide +kernel)⟩
theorem lw_p21 : lw_okq (⟨"GooseBorder$Sharing", "payAnew", "(I)V"⟩, 11) := ⟨⟨by decide +kernel, by decide +kernel⟩, List.mem_of_getElem? (i := 244) (by decide +kernel), List.mem_of_getElem? (i := 906) (by decide +kernel), List.mem_of_getElem? (i := 907) (by decide +kernel)⟩
theorem lw_p22 : lw_okq (⟨"GooseBorder$Sharing", "spread", "()I"⟩, 11) := ⟨⟨by decide +kernel, by decide +kernel⟩, List.mem_of_getElem? (i := 244) (by decide +kernel), List.mem_of_getElem? (i := 913) (by decide +kernel), List.mem_of_getElem? (i := 914) (by decide +kernel)⟩
theorem lw_p23 : lw_okq (⟨"GooseBorder$Sharing", "together", "()I"⟩, 11) := ⟨⟨by decide +kernel, by decide +kernel⟩, List.mem_of_getElem? (i := 244) (by decide +kernel), List.mem_of_getElem? (i := 919) (by decide +kernel), List.mem_of_getElem? (i := 920) (by decide +kernel)⟩
theorem lw_p24 : lw_okq (⟨"GooseBorder$Sharing", "keepRow", "()V"⟩, 11) := ⟨⟨by decide +kernel, by decide +kernel⟩, List.mem_of_getElem? (i := 244) (by decide +kernel), List.mem_of_getElem? (i := 923) (by decide +kernel), List.mem_of_getElem? (i := 924) (by decide +kernel)⟩
theorem lw_p25 : lw_okq (⟨"GooseBorder$Sharing", "advance", "()V"⟩, 11) := ⟨⟨by decide +kernel, by decide +kernel⟩, List.mem_of_getElem? (i := 244) (by decide +kernel), List.mem_of_getElem? (i := 928) (by decide +kernel), List.mem_of_getElem? (i := 929) (by decide +kernel)⟩
theorem lw_p26 : lw_okq (⟨"GooseBorder$Flocks", "sumUp", "(LGooseBorder$Border;I[I)V"⟩, 6) := ⟨⟨by decide +kernel, by decide +kernel⟩, List.mem_of_getElem? (i := 289) (by decide +kernel), List.mem_of_getElem? (i := 983) (by decide +kernel), List.mem_of_getElem? (i := 984) (by decide +kernel)⟩
theorem lw_p27 : lw_okq (⟨"GooseBorder$Flocks", "paysAll", "(LGooseBorder$Border;II)Z"⟩, 6) := ⟨⟨by decide +kernel, by decide +kernel⟩, List.mem_of_getElem? (i := 289) (by decide +kernel), List.mem_of_getElem? (i := 1035) (by decide +kernel), List.mem_of_getElem? (i := 1036) (by decide +kernel)⟩
theorem lw_p28 : lw_okq (⟨"GooseBorder$Flocks", "goBy", "(II)V"⟩, 6) := ⟨⟨by decide +kernel, by decide +kernel⟩, List.mem_of_getElem? (i := 289) (by decide +kernel), List.mem_of_getElem? (i := 1056) (by decide +kernel), List.mem_of_getElem? (i := 1057) (by decide +kernel)⟩
theorem lw_p29 : lw_okq (⟨"GooseBorder$Flocks", "addGoing", "(I)V"⟩, 6) := ⟨⟨by decide +kernel, by decide +kernel⟩, List.mem_of_getElem? (i := 289) (by decide +kernel), List.mem_of_getElem? (i := 1060) (by decide +kernel), List.mem_of_getElem? (i := 1061) (by decide +kernel)⟩
theorem lw_p30 : lw_okq (⟨"GooseBorder", "drawnNight", "(LGooseBorder$Border;I)I"⟩, 10) := ⟨⟨by decide +kernel, by decide +kernel⟩, List.mem_of_getElem? (i := 23) (by decide +kernel), List.mem_of_getElem? (i := 1102) (by decide +kernel), List.mem_of_getElem? (i := 1103) (by decide +kernel)⟩
theorem lw_p31 : lw_okq (⟨"GooseBorder", "numberBelow", "(I)I"⟩, 10) := ⟨⟨by decide +kernel, by decide +kernel⟩, List.mem_of_getElem? (i := 23) (by decide +kernel), List.mem_of_getElem? (i := 1107) (by decide +kernel), List.mem_of_getElem? (i := 1108) (by decide +kernel)⟩
def lw_privs_2 : List (MethodName × Nat) := [(⟨"GooseBorder$Play", "eat", "(I)V"⟩, 12), (⟨"GooseBorder", "playedTo", "(LGooseBorder$Border;LGooseBorder$Night;I)Z"⟩, 10), (⟨"GooseBorder$Play", "payBy", "(I)I"⟩, 12), (⟨"GooseBorder$Play", "payTold", "(II)I"⟩, 12), (⟨"GooseBorder$Sharing", "begin", "(LGooseBorder$Border;LGooseBorder$Law;I)V"⟩, 11), (⟨"GooseBorder$Sharing", "payAnew", "(I)V"⟩, 11), (⟨"GooseBorder$Sharing", "spread", "()I"⟩, 11), (⟨"GooseBorder$Sharing", "together", "()I"⟩, 11), (⟨"GooseBorder$Sharing", "keepRow", "()V"⟩, 11), (⟨"GooseBorder$Sharing", "advance", "()V"⟩, 11), (⟨"GooseBorder$Flocks", "sumUp", "(LGooseBorder$Border;I[I)V"⟩, 6), (⟨"GooseBorder$Flocks", "paysAll", "(LGooseBorder$Border;II)Z"⟩, 6), (⟨"GooseBorder$Flocks", "goBy", "(II)V"⟩, 6), (⟨"GooseBorder$Flocks", "addGoing", "(I)V"⟩, 6), (⟨"GooseBorder", "drawnNight", "(LGooseBorder$Border;I)I"⟩, 10), (⟨"GooseBorder", "numberBelow", "(I)I"⟩, 10)]
theorem lw_r2 : ∀ q ∈ lw_privs_2, lw_okq q := List.forall_mem_cons.mpr ⟨lw_p16, List.forall_mem_cons.mpr ⟨lw_p17, List.forall_mem_cons.mpr ⟨lw_p18, List.forall_mem_cons.mpr ⟨lw_p19, List.forall_mem_cons.mpr ⟨lw_p20, List.forall_mem_cons.mpr ⟨lw_p21, List.forall_mem_cons.mpr ⟨lw_p22, List.forall_mem_cons.mpr ⟨lw_p23, List.forall_mem_cons.mpr ⟨lw_p24, List.forall_mem_cons.mpr ⟨lw_p25, List.forall_mem_cons.mpr ⟨lw_p26, List.forall_mem_cons.mpr ⟨lw_p27, List.forall_mem_cons.mpr ⟨lw_p28, List.forall_mem_cons.mpr ⟨lw_p29, List.forall_mem_cons.mpr ⟨lw_p30, List.forall_mem_cons.mpr ⟨lw_p31, fun _ h => absurd h List.not_mem_nil⟩⟩⟩⟩⟩⟩⟩⟩⟩⟩⟩⟩⟩⟩⟩⟩
theorem lw_p32 : lw_okq (⟨"GooseBorderModel", "isOf", "(II)Z"⟩, 44) := ⟨⟨by decide +kernel, by decide +kernel⟩, List.mem_of_getElem? (i := 1119) (by decide +kernel), List.mem_of_getElem? (i := 1273) (by decide +kernel), List.mem_of_getElem? (i := 1274) (by decide +kernel)⟩
theorem lw_p33 : lw_okq (⟨"GooseBorderModel", "advance", "()V"⟩, 44) := ⟨⟨by decide +kernel, by decide +kernel⟩, List.mem_of_getElem? (i := 1119) (by decide +kernel), List.mem_of_getElem? (i := 1277) (by decide +kernel), List.mem_of_getElem? (i := 1278) (by decide +kernel)⟩
theorem lw_p34 : lw_okq (⟨"GooseBorderModel", "byteAt", "(I)I"⟩, 44) := ⟨⟨by decide +kernel, by decide +kernel⟩, List.mem_of_getElem? (i := 1119) (by decide +kernel), List.mem_of_getElem? (i := 1281) (by decide +kernel), List.mem_of_getElem? (i := 1282) (by decide +kernel)⟩
theorem lw_p35 : lw_okq (⟨"GooseBorderModel", "borderLine", "()V"⟩, 44) := ⟨⟨by decide +kernel, by decide +kernel⟩, List.mem_of_getElem? (i := 1119) (by decide +kernel), List.mem_of_getElem? (i := 1303) (by decide +kernel), List.mem_of_getElem? (i := 1304) (by decide +kernel)⟩
theorem lw_p36 : lw_okq (⟨"GooseBorderModel", "takes", "(II)I"⟩, 44) := ⟨⟨by decide +kernel, by decide +kernel⟩, List.mem_of_getElem? (i := 1119) (by decide +kernel), List.mem_of_getElem? (i := 1307) (by decide +kernel), List.mem_of_getElem? (i := 1308) (by decide +kernel)⟩
theorem lw_p37 : lw_okq (⟨"GooseBorderModel", "ends", "()V"⟩, 44) := ⟨⟨by decide +kernel, by decide +kernel⟩, List.mem_of_getElem? (i := 1119) (by decide +kernel), List.mem_of_getElem? (i := 1311) (by decide +kernel), List.mem_of_getElem? (i := 1312) (by decide +kernel)⟩
theorem lw_p38 : lw_okq (⟨"GooseBorderModel", "pathLine", "(I)V"⟩, 44) := ⟨⟨by decide +kernel, by decide +kernel⟩, List.mem_of_getElem? (i := 1119) (by decide +kernel), List.mem_of_getElem? (i := 1315) (by decide +kernel), List.mem_of_getElem? (i := 1316) (by decide +kernel)⟩
theorem lw_p39 : lw_okq (⟨"GooseBorderModel", "also", "(II)V"⟩, 44) := ⟨⟨by decide +kernel, by decide +kernel⟩, List.mem_of_getElem? (i := 1119) (by decide +kernel), List.mem_of_getElem? (i := 1319) (by decide +kernel), List.mem_of_getElem? (i := 1320) (by decide +kernel)⟩
theorem lw_p40 : lw_okq (⟨"GooseBorderModel", "numbered", "(II)I"⟩, 44) := ⟨⟨by decide +kernel, by decide +kernel⟩, List.mem_of_getElem? (i := 1119) (by decide +kernel), List.mem_of_getElem? (i := 1323) (by decide +kernel), List.mem_of_getElem? (i := 1324) (by decide +kernel)⟩
theorem lw_p41 : lw_okq (⟨"GooseBorderModel", "gooseLine", "(I)V"⟩, 44) := ⟨⟨by decide +kernel, by decide +kernel⟩, List.mem_of_getElem? (i := 1119) (by decide +kernel), List.mem_of_getElem? (i := 1327) (by decide +kernel), List.mem_of_getElem? (i := 1328) (by decide +kernel)⟩
theorem lw_p42 : lw_okq (⟨"GooseBorderModel", "endsLine", "()V"⟩, 44) := ⟨⟨by decide +kernel, by decide +kernel⟩, List.mem_of_getElem? (i := 1119) (by decide +kernel), List.mem_of_getElem? (i := 1331) (by decide +kernel), List.mem_of_getElem? (i := 1332) (by decide +kernel)⟩
theorem lw_p43 : lw_okq (⟨"GooseBorderModel", "deedLine", "()V"⟩, 44) := ⟨⟨by decide +kernel, by decide +kernel⟩, List.mem_of_getElem? (i := 1119) (by decide +kernel), List.mem_of_getElem? (i := 1335) (by decide +kernel), List.mem_of_getElem? (i := 1336) (by decide +kernel)⟩
theorem lw_p44 : lw_okq (⟨"GooseBorderModel", "gooseTold", "()I"⟩, 44) := ⟨⟨by decide +kernel, by decide +kernel⟩, List.mem_of_getElem? (i := 1119) (by decide +kernel), List.mem_of_getElem? (i := 1339) (by decide +kernel), List.mem_of_getElem? (i := 1340) (by decide +kernel)⟩
theorem lw_p45 : lw_okq (⟨"GooseBorderModel", "pathTold", "()I"⟩, 44) := ⟨⟨by decide +kernel, by decide +kernel⟩, List.mem_of_getElem? (i := 1119) (by decide +kernel), List.mem_of_getElem? (i := 1343) (by decide +kernel), List.mem_of_getElem? (i := 1344) (by decide +kernel)⟩
theorem lw_p46 : lw_okq (⟨"GooseBorderModel", "adds", "(IIIIII)V"⟩, 44) := ⟨⟨by decide +kernel, by decide +kernel⟩, List.mem_of_getElem? (i := 1119) (by decide +kernel), List.mem_of_getElem? (i := 1347) (by decide +kernel), List.mem_of_getElem? (i := 1348) (by decide +kernel)⟩
theorem lw_p47 : lw_okq (⟨"GooseBorderModel", "termLine", "()V"⟩, 44) := ⟨⟨by decide +kernel, by decide +kernel⟩, List.mem_of_getElem? (i := 1119) (by decide +kernel), List.mem_of_getElem? (i := 1351) (by decide +kernel), List.mem_of_getElem? (i := 1352) (by decide +kernel)⟩
def lw_privs_3 : List (MethodName × Nat) := [(⟨"GooseBorderModel", "isOf", "(II)Z"⟩, 44), (⟨"GooseBorderModel", "advance", "()V"⟩, 44), (⟨"GooseBorderModel", "byteAt", "(I)I"⟩, 44), (⟨"GooseBorderModel", "borderLine", "()V"⟩, 44), (⟨"GooseBorderModel", "takes", "(II)I"⟩, 44), (⟨"GooseBorderModel", "ends", "()V"⟩, 44), (⟨"GooseBorderModel", "pathLine", "(I)V"⟩, 44), (⟨"GooseBorderModel", "also", "(II)V"⟩, 44), (⟨"GooseBorderModel", "numbered", "(II)I"⟩, 44), (⟨"GooseBorderModel", "gooseLine", "(I)V"⟩, 44), (⟨"GooseBorderModel", "endsLine", "()V"⟩, 44), (⟨"GooseBorderModel", "deedLine", "()V"⟩, 44), (⟨"GooseBorderModel", "gooseTold", "()I"⟩, 44), (⟨"GooseBorderModel", "pathTold", "()I"⟩, 44), (⟨"GooseBorderModel", "adds", "(IIIIII)V"⟩, 44), (⟨"GooseBorderModel", "termLine", "()V"⟩, 44)]
theorem lw_r3 : ∀ q ∈ lw_privs_3, lw_okq q := List.forall_mem_cons.mpr ⟨lw_p32, List.forall_mem_cons.mpr ⟨lw_p33, List.forall_mem_cons.mpr ⟨lw_p34, List.forall_mem_cons.mpr ⟨lw_p35, List.forall_mem_cons.mpr ⟨lw_p36, List.forall_mem_cons.mpr ⟨lw_p37, List.forall_mem_cons.mpr ⟨lw_p38, List.forall_mem_cons.mpr ⟨lw_p39, List.forall_mem_cons.mpr ⟨lw_p40, List.forall_mem_cons.mpr ⟨lw_p41, List.forall_mem_cons.mpr ⟨lw_p42, List.forall_mem_cons.mpr ⟨lw_p43, List.forall_mem_cons.mpr ⟨lw_p44, List.forall_mem_cons.mpr ⟨lw_p45, List.forall_mem_cons.mpr ⟨lw_p46, List.forall_mem_cons.mpr ⟨lw_p47, fun _ h => absurd h List.not_mem_nil⟩⟩⟩⟩⟩⟩⟩⟩⟩⟩⟩⟩⟩⟩⟩⟩
theorem lw_p48 : lw_okq (⟨"GooseBorderModel", "seenLine", "()V"⟩, 44) := ⟨⟨by decide +kernel, by decide +kernel⟩, List.mem_of_getElem? (i := 1119) (by decide +kernel), List.mem_of_getElem? (i := 1355) (by decide +kernel), List.mem_of_getElem? (i := 1356) (by decide +kernel)⟩
theorem lw_p49 : lw_okq (⟨"GooseBorderModel", "isBorder", "(I)Z"⟩, 44) := ⟨⟨by decide +kernel, by decide +kernel⟩, List.mem_of_getElem? (i := 1119) (by decide +kernel), List.mem_of_getElem? (i := 1373) (by decide +kernel), List.mem_of_getElem? (i := 1374) (by decide +kernel)⟩
theorem lw_p50 : lw_okq (⟨"GooseBorderModel", "of", "(I)I"⟩, 44) := ⟨⟨by decide +kernel, by decide +kernel⟩, List.mem_of_getElem? (i := 1119) (by decide +kernel), List.mem_of_getElem? (i := 1377) (by decide +kernel), List.mem_of_getElem? (i := 1378) (by decide +kernel)⟩
theorem lw_p51 : lw_okq (⟨"GooseBorderModel", "isPath", "(I)Z"⟩, 44) := ⟨⟨by decide +kernel, by decide +kernel⟩, List.mem_of_getElem? (i := 1119) (by decide +kernel), List.mem_of_getElem? (i := 1381) (by decide +kernel), List.mem_of_getElem? (i := 1382) (by decide +kernel)⟩
theorem lw_p52 : lw_okq (⟨"GooseBorderModel", "paths", "()I"⟩, 44) := ⟨⟨by decide +kernel, by decide +kernel⟩, List.mem_of_getElem? (i := 1119) (by decide +kernel), List.mem_of_getElem? (i := 1385) (by decide +kernel), List.mem_of_getElem? (i := 1386) (by decide +kernel)⟩
theorem lw_p53 : lw_okq (⟨"GooseBorderModel", "ofPath", "(II)I"⟩, 44) := ⟨⟨by decide +kernel, by decide +kernel⟩, List.mem_of_getElem? (i := 1119) (by decide +kernel), List.mem_of_getElem? (i := 1389) (by decide +kernel), List.mem_of_getElem? (i := 1390) (by decide +kernel)⟩
theorem lw_p54 : lw_okq (⟨"GooseBorderModel", "isGoose", "(I)Z"⟩, 44) := ⟨⟨by decide +kernel, by decide +kernel⟩, List.mem_of_getElem? (i := 1119) (by decide +kernel), List.mem_of_getElem? (i := 1393) (by decide +kernel), List.mem_of_getElem? (i := 1394) (by decide +kernel)⟩
theorem lw_p55 : lw_okq (⟨"GooseBorderModel", "geese", "()I"⟩, 44) := ⟨⟨by decide +kernel, by decide +kernel⟩, List.mem_of_getElem? (i := 1119) (by decide +kernel), List.mem_of_getElem? (i := 1397) (by decide +kernel), List.mem_of_getElem? (i := 1398) (by decide +kernel)⟩
theorem lw_p56 : lw_okq (⟨"GooseBorderModel", "ofGoose", "(II)I"⟩, 44) := ⟨⟨by decide +kernel, by decide +kernel⟩, List.mem_of_getElem? (i := 1119) (by decide +kernel), List.mem_of_getElem? (i := 1401) (by decide +kernel), List.mem_of_getElem? (i := 1402) (by decide +kernel)⟩
theorem lw_p57 : lw_okq (⟨"GooseBorderModel", "left", "(IIIZI)I"⟩, 44) := ⟨⟨by decide +kernel, by decide +kernel⟩, List.mem_of_getElem? (i := 1119) (by decide +kernel), List.mem_of_getElem? (i := 1409) (by decide +kernel), List.mem_of_getElem? (i := 1410) (by decide +kernel)⟩
theorem lw_p58 : lw_okq (⟨"GooseBorderModel", "deeds", "()I"⟩, 44) := ⟨⟨by decide +kernel, by decide +kernel⟩, List.mem_of_getElem? (i := 1119) (by decide +kernel), List.mem_of_getElem? (i := 1417) (by decide +kernel), List.mem_of_getElem? (i := 1418) (by decide +kernel)⟩
theorem lw_p59 : lw_okq (⟨"GooseBorderModel", "deedOf", "(II)I"⟩, 44) := ⟨⟨by decide +kernel, by decide +kernel⟩, List.mem_of_getElem? (i := 1119) (by decide +kernel), List.mem_of_getElem? (i := 1421) (by decide +kernel), List.mem_of_getElem? (i := 1422) (by decide +kernel)⟩
theorem lw_p60 : lw_okq (⟨"GooseBorderModel", "areTold", "(II)Z"⟩, 44) := ⟨⟨by decide +kernel, by decide +kernel⟩, List.mem_of_getElem? (i := 1119) (by decide +kernel), List.mem_of_getElem? (i := 1429) (by decide +kernel), List.mem_of_getElem? (i := 1430) (by decide +kernel)⟩
theorem lw_p61 : lw_okq (⟨"GooseBorderModel", "runs", "(I)V"⟩, 44) := ⟨⟨by decide +kernel, by decide +kernel⟩, List.mem_of_getElem? (i := 1119) (by decide +kernel), List.mem_of_getElem? (i := 1433) (by decide +kernel), List.mem_of_getElem? (i := 1434) (by decide +kernel)⟩
theorem lw_p62 : lw_okq (⟨"GooseBorderModel", "begins", "()V"⟩, 44) := ⟨⟨by decide +kernel, by decide +kernel⟩, List.mem_of_getElem? (i := 1119) (by decide +kernel), List.mem_of_getElem? (i := 1437) (by decide +kernel), List.mem_of_getElem? (i := 1438) (by decide +kernel)⟩
theorem lw_p63 : lw_okq (⟨"GooseBorderModel", "can", "(I)Z"⟩, 44) := ⟨⟨by decide +kernel, by decide +kernel⟩, List.mem_of_getElem? (i := 1119) (by decide +kernel), List.mem_of_getElem? (i := 1441) (by decide +kernel), List.mem_of_getElem? (i := 1442) (by decide +kernel)⟩
def lw_privs_4 : List (MethodName × Nat) := [(⟨"GooseBorderModel", "seenLine", "()V"⟩, 44), (⟨"GooseBorderModel", "isBorder", "(I)Z"⟩, 44), (⟨"GooseBorderModel", "of", "(I)I"⟩, 44), (⟨"GooseBorderModel", "isPath", "(I)Z"⟩, 44), (⟨"GooseBorderModel", "paths", "()I"⟩, 44), (⟨"GooseBorderModel", "ofPath", "(II)I"⟩, 44), (⟨"GooseBorderModel", "isGoose", "(I)Z"⟩, 44), (⟨"GooseBorderModel", "geese", "()I"⟩, 44), (⟨"GooseBorderModel", "ofGoose", "(II)I"⟩, 44), (⟨"GooseBorderModel", "left", "(IIIZI)I"⟩, 44), (⟨"GooseBorderModel", "deeds", "()I"⟩, 44), (⟨"GooseBorderModel", "deedOf", "(II)I"⟩, 44), (⟨"GooseBorderModel", "areTold", "(II)Z"⟩, 44), (⟨"GooseBorderModel", "runs", "(I)V"⟩, 44), (⟨"GooseBorderModel", "begins", "()V"⟩, 44), (⟨"GooseBorderModel", "can", "(I)Z"⟩, 44)]
theorem lw_r4 : ∀ q ∈ lw_privs_4, lw_okq q := List.forall_mem_cons.mpr ⟨lw_p48, List.forall_mem_cons.mpr ⟨lw_p49, List.forall_mem_cons.mpr ⟨lw_p50, List.forall_mem_cons.mpr ⟨lw_p51, List.forall_mem_cons.mpr ⟨lw_p52, List.forall_mem_cons.mpr ⟨lw_p53, List.forall_mem_cons.mpr ⟨lw_p54, List.forall_mem_cons.mpr ⟨lw_p55, List.forall_mem_cons.mpr ⟨lw_p56, List.forall_mem_cons.mpr ⟨lw_p57, List.forall_mem_cons.mpr ⟨lw_p58, List.forall_mem_cons.mpr ⟨lw_p59, List.forall_mem_cons.mpr ⟨lw_p60, List.forall_mem_cons.mpr ⟨lw_p61, List.forall_mem_cons.mpr ⟨lw_p62, List.forall_mem_cons.mpr ⟨lw_p63, fun _ h => absurd h List.not_mem_nil⟩⟩⟩⟩⟩⟩⟩⟩⟩⟩⟩⟩⟩⟩⟩⟩
theorem lw_p64 : lw_okq (⟨"GooseBorderModel", "isAt", "(II)Z"⟩, 44) := ⟨⟨by decide +kernel, by decide +kernel⟩, List.mem_of_getElem? (i := 1119) (by decide +kernel), List.mem_of_getElem? (i := 1445) (by decide +kernel), List.mem_of_getElem? (i := 1446) (by decide +kernel)⟩
theorem lw_p65 : lw_okq (⟨"GooseBorderModel", "foxed", "(I)I"⟩, 44) := ⟨⟨by decide +kernel, by decide +kernel⟩, List.mem_of_getElem? (i := 1119) (by decide +kernel), List.mem_of_getElem? (i := 1449) (by decide +kernel), List.mem_of_getElem? (i := 1450) (by decide +kernel)⟩
theorem lw_p66 : lw_okq (⟨"GooseBorderModel", "does", "(I)V"⟩, 44) := ⟨⟨by decide +kernel, by decide +kernel⟩, List.mem_of_getElem? (i := 1119) (by decide +kernel), List.mem_of_getElem? (i := 1453) (by decide +kernel), List.mem_of_getElem? (i := 1454) (by decide +kernel)⟩
theorem lw_p67 : lw_okq (⟨"GooseBorderModel", "walks", "(IIIZI)V"⟩, 44) := ⟨⟨by decide +kernel, by decide +kernel⟩, List.mem_of_getElem? (i := 1119) (by decide +kernel), List.mem_of_getElem? (i := 1457) (by decide +kernel), List.mem_of_getElem? (i := 1458) (by decide +kernel)⟩
theorem lw_p68 : lw_okq (⟨"GooseBorderModel", "rains", "(I)V"⟩, 44) := ⟨⟨by decide +kernel, by decide +kernel⟩, List.mem_of_getElem? (i := 1119) (by decide +kernel), List.mem_of_getElem? (i := 1461) (by decide +kernel), List.mem_of_getElem? (i := 1462) (by decide +kernel)⟩
theorem lw_p69 : lw_okq (⟨"GooseBorderModel", "isState", "(III)Z"⟩, 44) := ⟨⟨by decide +kernel, by decide +kernel⟩, List.mem_of_getElem? (i := 1119) (by decide +kernel), List.mem_of_getElem? (i := 1469) (by decide +kernel), List.mem_of_getElem? (i := 1470) (by decide +kernel)⟩
theorem lw_p70 : lw_okq (⟨"GooseBorderModel", "tally", "(I)I"⟩, 44) := ⟨⟨by decide +kernel, by decide +kernel⟩, List.mem_of_getElem? (i := 1119) (by decide +kernel), List.mem_of_getElem? (i := 1477) (by decide +kernel), List.mem_of_getElem? (i := 1478) (by decide +kernel)⟩
theorem lw_p71 : lw_okq (⟨"GooseBorderModel", "padded", "(II)I"⟩, 44) := ⟨⟨by decide +kernel, by decide +kernel⟩, List.mem_of_getElem? (i := 1119) (by decide +kernel), List.mem_of_getElem? (i := 1481) (by decide +kernel), List.mem_of_getElem? (i := 1482) (by decide +kernel)⟩
theorem lw_p72 : lw_okq (⟨"GooseBorderModel", "pay", "(I)I"⟩, 44) := ⟨⟨by decide +kernel, by decide +kernel⟩, List.mem_of_getElem? (i := 1119) (by decide +kernel), List.mem_of_getElem? (i := 1485) (by decide +kernel), List.mem_of_getElem? (i := 1486) (by decide +kernel)⟩
theorem lw_p73 : lw_okq (⟨"GooseBorderModel", "worn", "()I"⟩, 44) := ⟨⟨by decide +kernel, by decide +kernel⟩, List.mem_of_getElem? (i := 1119) (by decide +kernel), List.mem_of_getElem? (i := 1493) (by decide +kernel), List.mem_of_getElem? (i := 1494) (by decide +kernel)⟩
theorem lw_p74 : lw_okq (⟨"GooseBorderModel", "allPay", "()I"⟩, 44) := ⟨⟨by decide +kernel, by decide +kernel⟩, List.mem_of_getElem? (i := 1119) (by decide +kernel), List.mem_of_getElem? (i := 1497) (by decide +kernel), List.mem_of_getElem? (i := 1498) (by decide +kernel)⟩
theorem lw_p75 : lw_okq (⟨"GooseBorderModel", "termOf", "(II)I"⟩, 44) := ⟨⟨by decide +kernel, by decide +kernel⟩, List.mem_of_getElem? (i := 1119) (by decide +kernel), List.mem_of_getElem? (i := 1505) (by decide +kernel), List.mem_of_getElem? (i := 1506) (by decide +kernel)⟩
theorem lw_p76 : lw_okq (⟨"GooseBorderModel", "paysBy", "(I)I"⟩, 44) := ⟨⟨by decide +kernel, by decide +kernel⟩, List.mem_of_getElem? (i := 1119) (by decide +kernel), List.mem_of_getElem? (i := 1513) (by decide +kernel), List.mem_of_getElem? (i := 1514) (by decide +kernel)⟩
theorem lw_p77 : lw_okq (⟨"GooseBorderModel", "canMarch", "(I)Z"⟩, 44) := ⟨⟨by decide +kernel, by decide +kernel⟩, List.mem_of_getElem? (i := 1119) (by decide +kernel), List.mem_of_getElem? (i := 1521) (by decide +kernel), List.mem_of_getElem? (i := 1522) (by decide +kernel)⟩
theorem lw_p78 : lw_okq (⟨"GooseBorderModel", "bestWorth", "(Z)I"⟩, 44) := ⟨⟨by decide +kernel, by decide +kernel⟩, List.mem_of_getElem? (i := 1119) (by decide +kernel), List.mem_of_getElem? (i := 1525) (by decide +kernel), List.mem_of_getElem? (i := 1526) (by decide +kernel)⟩
theorem lw_p79 : lw_okq (⟨"GooseBorderModel", "measures", "()V"⟩, 44) := ⟨⟨by decide +kernel, by decide +kernel⟩, List.mem_of_getElem? (i := 1119) (by decide +kernel), List.mem_of_getElem? (i := 1529) (by decide +kernel), List.mem_of_getElem? (i := 1530) (by decide +kernel)⟩
def lw_privs_5 : List (MethodName × Nat) := [(⟨"GooseBorderModel", "isAt", "(II)Z"⟩, 44), (⟨"GooseBorderModel", "foxed", "(I)I"⟩, 44), (⟨"GooseBorderModel", "does", "(I)V"⟩, 44), (⟨"GooseBorderModel", "walks", "(IIIZI)V"⟩, 44), (⟨"GooseBorderModel", "rains", "(I)V"⟩, 44), (⟨"GooseBorderModel", "isState", "(III)Z"⟩, 44), (⟨"GooseBorderModel", "tally", "(I)I"⟩, 44), (⟨"GooseBorderModel", "padded", "(II)I"⟩, 44), (⟨"GooseBorderModel", "pay", "(I)I"⟩, 44), (⟨"GooseBorderModel", "worn", "()I"⟩, 44), (⟨"GooseBorderModel", "allPay", "()I"⟩, 44), (⟨"GooseBorderModel", "termOf", "(II)I"⟩, 44), (⟨"GooseBorderModel", "paysBy", "(I)I"⟩, 44), (⟨"GooseBorderModel", "canMarch", "(I)Z"⟩, 44), (⟨"GooseBorderModel", "bestWorth", "(Z)I"⟩, 44), (⟨"GooseBorderModel", "measures", "()V"⟩, 44)]
theorem lw_r5 : ∀ q ∈ lw_privs_5, lw_okq q := List.forall_mem_cons.mpr ⟨lw_p64, List.forall_mem_cons.mpr ⟨lw_p65, List.forall_mem_cons.mpr ⟨lw_p66, List.forall_mem_cons.mpr ⟨lw_p67, List.forall_mem_cons.mpr ⟨lw_p68, List.forall_mem_cons.mpr ⟨lw_p69, List.forall_mem_cons.mpr ⟨lw_p70, List.forall_mem_cons.mpr ⟨lw_p71, List.forall_mem_cons.mpr ⟨lw_p72, List.forall_mem_cons.mpr ⟨lw_p73, List.forall_mem_cons.mpr ⟨lw_p74, List.forall_mem_cons.mpr ⟨lw_p75, List.forall_mem_cons.mpr ⟨lw_p76, List.forall_mem_cons.mpr ⟨lw_p77, List.forall_mem_cons.mpr ⟨lw_p78, List.forall_mem_cons.mpr ⟨lw_p79, fun _ h => absurd h List.not_mem_nil⟩⟩⟩⟩⟩⟩⟩⟩⟩⟩⟩⟩⟩⟩⟩⟩
theorem lw_p80 : lw_okq (⟨"GooseBorderModel", "firstMarks", "(II)I"⟩, 44) := ⟨⟨by decide +kernel, by decide +kernel⟩, List.mem_of_getElem? (i := 1119) (by decide +kernel), List.mem_of_getElem? (i := 1533) (by decide +kernel), List.mem_of_getElem? (i := 1534) (by decide +kernel)⟩
theorem lw_p81 : lw_okq (⟨"GooseBorderModel", "codes", "()I"⟩, 44) := ⟨⟨by decide +kernel, by decide +kernel⟩, List.mem_of_getElem? (i := 1119) (by decide +kernel), List.mem_of_getElem? (i := 1537) (by decide +kernel), List.mem_of_getElem? (i := 1538) (by decide +kernel)⟩
theorem lw_p82 : lw_okq (⟨"GooseBorderModel", "worthOf", "(IZ)I"⟩, 44) := ⟨⟨by decide +kernel, by decide +kernel⟩, List.mem_of_getElem? (i := 1119) (by decide +kernel), List.mem_of_getElem? (i := 1541) (by decide +kernel), List.mem_of_getElem? (i := 1542) (by decide +kernel)⟩
theorem lw_p83 : lw_okq (⟨"GooseBorderModel", "sums", "(I)V"⟩, 44) := ⟨⟨by decide +kernel, by decide +kernel⟩, List.mem_of_getElem? (i := 1119) (by decide +kernel), List.mem_of_getElem? (i := 1545) (by decide +kernel), List.mem_of_getElem? (i := 1546) (by decide +kernel)⟩
theorem lw_p84 : lw_okq (⟨"GooseBorderModel", "payOf", "(I)I"⟩, 44) := ⟨⟨by decide +kernel, by decide +kernel⟩, List.mem_of_getElem? (i := 1119) (by decide +kernel), List.mem_of_getElem? (i := 1549) (by decide +kernel), List.mem_of_getElem? (i := 1550) (by decide +kernel)⟩
theorem lw_p85 : lw_okq (⟨"GooseBorderModel", "figure", "(I)I"⟩, 44) := ⟨⟨by decide +kernel, by decide +kernel⟩, List.mem_of_getElem? (i := 1119) (by decide +kernel), List.mem_of_getElem? (i := 1553) (by decide +kernel), List.mem_of_getElem? (i := 1554) (by decide +kernel)⟩
theorem lw_p86 : lw_okq (⟨"GooseBorderModel", "bestPath", "(I)I"⟩, 44) := ⟨⟨by decide +kernel, by decide +kernel⟩, List.mem_of_getElem? (i := 1119) (by decide +kernel), List.mem_of_getElem? (i := 1569) (by decide +kernel), List.mem_of_getElem? (i := 1570) (by decide +kernel)⟩
theorem lw_p87 : lw_okq (⟨"GooseBorderModel", "lamePay", "(IZ)I"⟩, 44) := ⟨⟨by decide +kernel, by decide +kernel⟩, List.mem_of_getElem? (i := 1119) (by decide +kernel), List.mem_of_getElem? (i := 1573) (by decide +kernel), List.mem_of_getElem? (i := 1574) (by decide +kernel)⟩
theorem lw_p88 : lw_okq (⟨"GooseBorderModel", "isRest", "(I)Z"⟩, 44) := ⟨⟨by decide +kernel, by decide +kernel⟩, List.mem_of_getElem? (i := 1119) (by decide +kernel), List.mem_of_getElem? (i := 1581) (by decide +kernel), List.mem_of_getElem? (i := 1582) (by decide +kernel)⟩
theorem lw_p89 : lw_okq (⟨"GooseBorderModel", "takeOf", "(II)I"⟩, 44) := ⟨⟨by decide +kernel, by decide +kernel⟩, List.mem_of_getElem? (i := 1119) (by decide +kernel), List.mem_of_getElem? (i := 1585) (by decide +kernel), List.mem_of_getElem? (i := 1586) (by decide +kernel)⟩
theorem lw_p90 : lw_okq (⟨"GooseBorderModel", "seenOf", "(II)I"⟩, 44) := ⟨⟨by decide +kernel, by decide +kernel⟩, List.mem_of_getElem? (i := 1119) (by decide +kernel), List.mem_of_getElem? (i := 1601) (by decide +kernel), List.mem_of_getElem? (i := 1602) (by decide +kernel)⟩
theorem lw_p91 : lw_okq (⟨"GooseBorderModel", "areSeen", "(II)Z"⟩, 44) := ⟨⟨by decide +kernel, by decide +kernel⟩, List.mem_of_getElem? (i := 1119) (by decide +kernel), List.mem_of_getElem? (i := 1609) (by decide +kernel), List.mem_of_getElem? (i := 1610) (by decide +kernel)⟩
theorem lw_p92 : lw_okq (⟨"GooseBorderModel", "tries", "()V"⟩, 44) := ⟨⟨by decide +kernel, by decide +kernel⟩, List.mem_of_getElem? (i := 1119) (by decide +kernel), List.mem_of_getElem? (i := 1614) (by decide +kernel), List.mem_of_getElem? (i := 1615) (by decide +kernel)⟩
theorem lw_p93 : lw_okq (⟨"GooseBorderModel", "opens", "()V"⟩, 44) := ⟨⟨by decide +kernel, by decide +kernel⟩, List.mem_of_getElem? (i := 1119) (by decide +kernel), List.mem_of_getElem? (i := 1618) (by decide +kernel), List.mem_of_getElem? (i := 1619) (by decide +kernel)⟩
theorem lw_p94 : lw_okq (⟨"GooseBorderModel", "counts", "()V"⟩, 44) := ⟨⟨by decide +kernel, by decide +kernel⟩, List.mem_of_getElem? (i := 1119) (by decide +kernel), List.mem_of_getElem? (i := 1622) (by decide +kernel), List.mem_of_getElem? (i := 1623) (by decide +kernel)⟩
theorem lw_p95 : lw_okq (⟨"GooseBorderModel", "isWhole", "()Z"⟩, 44) := ⟨⟨by decide +kernel, by decide +kernel⟩, List.mem_of_getElem? (i := 1119) (by decide +kernel), List.mem_of_getElem? (i := 1626) (by decide +kernel), List.mem_of_getElem? (i := 1627) (by decide +kernel)⟩
def lw_privs_6 : List (MethodName × Nat) := [(⟨"GooseBorderModel", "firstMarks", "(II)I"⟩, 44), (⟨"GooseBorderModel", "codes", "()I"⟩, 44), (⟨"GooseBorderModel", "worthOf", "(IZ)I"⟩, 44), (⟨"GooseBorderModel", "sums", "(I)V"⟩, 44), (⟨"GooseBorderModel", "payOf", "(I)I"⟩, 44), (⟨"GooseBorderModel", "figure", "(I)I"⟩, 44), (⟨"GooseBorderModel", "bestPath", "(I)I"⟩, 44), (⟨"GooseBorderModel", "lamePay", "(IZ)I"⟩, 44), (⟨"GooseBorderModel", "isRest", "(I)Z"⟩, 44), (⟨"GooseBorderModel", "takeOf", "(II)I"⟩, 44), (⟨"GooseBorderModel", "seenOf", "(II)I"⟩, 44), (⟨"GooseBorderModel", "areSeen", "(II)Z"⟩, 44), (⟨"GooseBorderModel", "tries", "()V"⟩, 44), (⟨"GooseBorderModel", "opens", "()V"⟩, 44), (⟨"GooseBorderModel", "counts", "()V"⟩, 44), (⟨"GooseBorderModel", "isWhole", "()Z"⟩, 44)]
theorem lw_r6 : ∀ q ∈ lw_privs_6, lw_okq q := List.forall_mem_cons.mpr ⟨lw_p80, List.forall_mem_cons.mpr ⟨lw_p81, List.forall_mem_cons.mpr ⟨lw_p82, List.forall_mem_cons.mpr ⟨lw_p83, List.forall_mem_cons.mpr ⟨lw_p84, List.forall_mem_cons.mpr ⟨lw_p85, List.forall_mem_cons.mpr ⟨lw_p86, List.forall_mem_cons.mpr ⟨lw_p87, List.forall_mem_cons.mpr ⟨lw_p88, List.forall_mem_cons.mpr ⟨lw_p89, List.forall_mem_cons.mpr ⟨lw_p90, List.forall_mem_cons.mpr ⟨lw_p91, List.forall_mem_cons.mpr ⟨lw_p92, List.forall_mem_cons.mpr ⟨lw_p93, List.forall_mem_cons.mpr ⟨lw_p94, List.forall_mem_cons.mpr ⟨lw_p95, fun _ h => absurd h List.not_mem_nil⟩⟩⟩⟩⟩⟩⟩⟩⟩⟩⟩⟩⟩⟩⟩⟩
theorem lw_p96 : lw_okq (⟨"GooseBorderModel", "isNext", "(I)Z"⟩, 44) := ⟨⟨by decide +kernel, by decide +kernel⟩, List.mem_of_getElem? (i := 1119) (by decide +kernel), List.mem_of_getElem? (i := 1630) (by decide +kernel), List.mem_of_getElem? (i := 1631) (by decide +kernel)⟩
theorem lw_p97 : lw_okq (⟨"GooseBorderModel", "toe", "()I"⟩, 44) := ⟨⟨by decide +kernel, by decide +kernel⟩, List.mem_of_getElem? (i := 1119) (by decide +kernel), List.mem_of_getElem? (i := 1638) (by decide +kernel), List.mem_of_getElem? (i := 1639) (by decide +kernel)⟩
theorem lw_p98 : lw_okq (⟨"GooseBorderModel", "draws", "()V"⟩, 44) := ⟨⟨by decide +kernel, by decide +kernel⟩, List.mem_of_getElem? (i := 1119) (by decide +kernel), List.mem_of_getElem? (i := 1654) (by decide +kernel), List.mem_of_getElem? (i := 1655) (by decide +kernel)⟩
theorem lw_p99 : lw_okq (⟨"GooseBorderModel", "below", "(I)I"⟩, 44) := ⟨⟨by decide +kernel, by decide +kernel⟩, List.mem_of_getElem? (i := 1119) (by decide +kernel), List.mem_of_getElem? (i := 1658) (by decide +kernel), List.mem_of_getElem? (i := 1659) (by decide +kernel)⟩
theorem lw_p100 : lw_okq (⟨"GooseBorderModel", "apartWithout", "(I)I"⟩, 44) := ⟨⟨by decide +kernel, by decide +kernel⟩, List.mem_of_getElem? (i := 1119) (by decide +kernel), List.mem_of_getElem? (i := 1690) (by decide +kernel), List.mem_of_getElem? (i := 1691) (by decide +kernel)⟩
theorem lw_p101 : lw_okq (⟨"GooseBorderModel", "swaps", "(I)V"⟩, 44) := ⟨⟨by decide +kernel, by decide +kernel⟩, List.mem_of_getElem? (i := 1119) (by decide +kernel), List.mem_of_getElem? (i := 1702) (by decide +kernel), List.mem_of_getElem? (i := 1703) (by decide +kernel)⟩
theorem lw_p102 : lw_okq (⟨"GooseBorderModel", "isPut", "(I)Z"⟩, 44) := ⟨⟨by decide +kernel, by decide +kernel⟩, List.mem_of_getElem? (i := 1119) (by decide +kernel), List.mem_of_getElem? (i := 1710) (by decide +kernel), List.mem_of_getElem? (i := 1711) (by decide +kernel)⟩
def lw_privs_7 : List (MethodName × Nat) := [(⟨"GooseBorderModel", "isNext", "(I)Z"⟩, 44), (⟨"GooseBorderModel", "toe", "()I"⟩, 44), (⟨"GooseBorderModel", "draws", "()V"⟩, 44), (⟨"GooseBorderModel", "below", "(I)I"⟩, 44), (⟨"GooseBorderModel", "apartWithout", "(I)I"⟩, 44), (⟨"GooseBorderModel", "swaps", "(I)V"⟩, 44), (⟨"GooseBorderModel", "isPut", "(I)Z"⟩, 44)]
theorem lw_r7 : ∀ q ∈ lw_privs_7, lw_okq q := List.forall_mem_cons.mpr ⟨lw_p96, List.forall_mem_cons.mpr ⟨lw_p97, List.forall_mem_cons.mpr ⟨lw_p98, List.forall_mem_cons.mpr ⟨lw_p99, List.forall_mem_cons.mpr ⟨lw_p100, List.forall_mem_cons.mpr ⟨lw_p101, List.forall_mem_cons.mpr ⟨lw_p102, fun _ h => absurd h List.not_mem_nil⟩⟩⟩⟩⟩⟩⟩
def lw_privs : List (MethodName × Nat) := lw_privs_1 ++ (lw_privs_2 ++ (lw_privs_3 ++ (lw_privs_4 ++ (lw_privs_5 ++ (lw_privs_6 ++ (lw_privs_7))))))
def lw_tbl : List Cond := k2_sels lw_privs ++ tables_1
theorem lw_privs_ok : ∀ q ∈ lw_privs, lw_okq q := by
  show ∀ q ∈ lw_privs_1 ++ (lw_privs_2 ++ (lw_privs_3 ++ (lw_privs_4 ++ (lw_privs_5 ++ (lw_privs_6 ++ (lw_privs_7)))))), lw_okq q
  exact List.forall_mem_append.mpr ⟨lw_r1, List.forall_mem_append.mpr ⟨lw_r2, List.forall_mem_append.mpr ⟨lw_r3, List.forall_mem_append.mpr ⟨lw_r4, List.forall_mem_append.mpr ⟨lw_r5, List.forall_mem_append.mpr ⟨lw_r6, lw_r7⟩⟩⟩⟩⟩⟩

/-! the words that stay: all of the tables that a call may carry on -/
def gb_wA : List Cond := lw_tbl.filter goodWord
theorem gb_wA_tbl : ∀ w ∈ gb_wA, w ∈ lw_tbl := fun _ h => (List.mem_filter.mp h).1
theorem gb_good {big : List Cond} (hb : ∀ w ∈ gb_wA, w ∈ big) : GoodIn big gb_wA := fun w h => ⟨hb w h, good_of_word (List.mem_filter.mp h).2⟩
theorem gb_goodc {big : List Cond} {c : Cond} (hb : ∀ w ∈ gb_wA, w ∈ big) (hc : c ∈ gb_wA) : GoodIn big (c :: gb_wA) := fun w h => (List.mem_cons.mp h).elim (fun e => by rw [e]; exact gb_good hb c hc) (fun h => gb_good hb w h)
theorem gb_tb {w : Cond} (h : w ∈ tables_1) (hg : goodWord w = true) : w ∈ gb_wA := List.mem_filter.mpr ⟨List.mem_append_right _ h, hg⟩
theorem gb_sl {w : Cond} (h : w ∈ k2_sels lw_privs) (hg : goodWord w = true) : w ∈ gb_wA := List.mem_filter.mpr ⟨List.mem_append_left _ h, hg⟩
theorem gb_tt1 {i : Nat} {w : Cond} (h : tables_1_1[i]? = some w) : w ∈ tables_1 := List.mem_append_left _ (List.mem_of_getElem? h)
theorem gb_t1 {w : Cond} (i : Nat) (h : tables_1_1[i]? = some w) (hg : goodWord w = true) : w ∈ gb_wA := gb_tb (gb_tt1 h) hg
theorem gb_tt2 {i : Nat} {w : Cond} (h : tables_1_2[i]? = some w) : w ∈ tables_1 := List.mem_append_right _ (List.mem_append_left _ (List.mem_of_getElem? h))
theorem gb_t2 {w : Cond} (i : Nat) (h : tables_1_2[i]? = some w) (hg : goodWord w = true) : w ∈ gb_wA := gb_tb (gb_tt2 h) hg
theorem gb_tt3 {i : Nat} {w : Cond} (h : tables_1_3[i]? = some w) : w ∈ tables_1 := List.mem_append_right _ (List.mem_append_right _ (List.mem_append_left _ (List.mem_of_getElem? h)))
theorem gb_t3 {w : Cond} (i : Nat) (h : tables_1_3[i]? = some w) (hg : goodWord w = true) : w ∈ gb_wA := gb_tb (gb_tt3 h) hg
theorem gb_tt4 {i : Nat} {w : Cond} (h : tables_1_4[i]? = some w) : w ∈ tables_1 := List.mem_append_right _ (List.mem_append_right _ (List.mem_append_right _ (List.mem_append_left _ (List.mem_of_getElem? h))))
theorem gb_t4 {w : Cond} (i : Nat) (h : tables_1_4[i]? = some w) (hg : goodWord w = true) : w ∈ gb_wA := gb_tb (gb_tt4 h) hg
theorem gb_tt5 {i : Nat} {w : Cond} (h : tables_1_5[i]? = some w) : w ∈ tables_1 := List.mem_append_right _ (List.mem_append_right _ (List.mem_append_right _ (List.mem_append_right _ (List.mem_append_left _ (List.mem_of_getElem? h)))))
theorem gb_t5 {w : Cond} (i : Nat) (h : tables_1_5[i]? = some w) (hg : goodWord w = true) : w ∈ gb_wA := gb_tb (gb_tt5 h) hg
theorem gb_tt6 {i : Nat} {w : Cond} (h : tables_1_6[i]? = some w) : w ∈ tables_1 := List.mem_append_right _ (List.mem_append_right _ (List.mem_append_right _ (List.mem_append_right _ (List.mem_append_right _ (List.mem_append_left _ (List.mem_of_getElem? h))))))
theorem gb_t6 {w : Cond} (i : Nat) (h : tables_1_6[i]? = some w) (hg : goodWord w = true) : w ∈ gb_wA := gb_tb (gb_tt6 h) hg
theorem gb_tt7 {i : Nat} {w : Cond} (h : tables_1_7[i]? = some w) : w ∈ tables_1 := List.mem_append_right _ (List.mem_append_right _ (List.mem_append_right _ (List.mem_append_right _ (List.mem_append_right _ (List.mem_append_right _ (List.mem_append_left _ (List.mem_of_getElem? h)))))))
theorem gb_t7 {w : Cond} (i : Nat) (h : tables_1_7[i]? = some w) (hg : goodWord w = true) : w ∈ gb_wA := gb_tb (gb_tt7 h) hg
theorem gb_tt8 {i : Nat} {w : Cond} (h : tables_1_8[i]? = some w) : w ∈ tables_1 := List.mem_append_right _ (List.mem_append_right _ (List.mem_append_right _ (List.mem_append_right _ (List.mem_append_right _ (List.mem_append_right _ (List.mem_append_right _ (List.mem_of_getElem? h)))))))
theorem gb_t8 {w : Cond} (i : Nat) (h : tables_1_8[i]? = some w) (hg : goodWord w = true) : w ∈ gb_wA := gb_tb (gb_tt8 h) hg
theorem gb_s1 {q : MethodName × Nat} (i : Nat) (h : lw_privs_1[i]? = some q) (hg : goodWord (Cond.selects q.1.cls q.1 q.1) = true) : Cond.selects q.1.cls q.1 q.1 ∈ gb_wA := gb_sl (List.mem_map.mpr ⟨q, List.mem_append_left _ (List.mem_of_getElem? h), rfl⟩) hg
theorem gb_s2 {q : MethodName × Nat} (i : Nat) (h : lw_privs_2[i]? = some q) (hg : goodWord (Cond.selects q.1.cls q.1 q.1) = true) : Cond.selects q.1.cls q.1 q.1 ∈ gb_wA := gb_sl (List.mem_map.mpr ⟨q, List.mem_append_right _ (List.mem_append_left _ (List.mem_of_getElem? h)), rfl⟩) hg
theorem gb_s3 {q : MethodName × Nat} (i : Nat) (h : lw_privs_3[i]? = some q) (hg : goodWord (Cond.selects q.1.cls q.1 q.1) = true) : Cond.selects q.1.cls q.1 q.1 ∈ gb_wA := gb_sl (List.mem_map.mpr ⟨q, List.mem_append_right _ (List.mem_append_right _ (List.mem_append_left _ (List.mem_of_getElem? h))), rfl⟩) hg
theorem gb_s4 {q : MethodName × Nat} (i : Nat) (h : lw_privs_4[i]? = some q) (hg : goodWord (Cond.selects q.1.cls q.1 q.1) = true) : Cond.selects q.1.cls q.1 q.1 ∈ gb_wA := gb_sl (List.mem_map.mpr ⟨q, List.mem_append_right _ (List.mem_append_right _ (List.mem_append_right _ (List.mem_append_left _ (List.mem_of_getElem? h)))), rfl⟩) hg
theorem gb_s5 {q : MethodName × Nat} (i : Nat) (h : lw_privs_5[i]? = some q) (hg : goodWord (Cond.selects q.1.cls q.1 q.1) = true) : Cond.selects q.1.cls q.1 q.1 ∈ gb_wA := gb_sl (List.mem_map.mpr ⟨q, List.mem_append_right _ (List.mem_append_right _ (List.mem_append_right _ (List.mem_append_right _ (List.mem_append_left _ (List.mem_of_getElem? h))))), rfl⟩) hg
theorem gb_s6 {q : MethodName × Nat} (i : Nat) (h : lw_privs_6[i]? = some q) (hg : goodWord (Cond.selects q.1.cls q.1 q.1) = true) : Cond.selects q.1.cls q.1 q.1 ∈ gb_wA := gb_sl (List.mem_map.mpr ⟨q, List.mem_append_right _ (List.mem_append_right _ (List.mem_append_right _ (List.mem_append_right _ (List.mem_append_right _ (List.mem_append_left _ (List.mem_of_getElem? h)))))), rfl⟩) hg
theorem gb_s7 {q : MethodName × Nat} (i : Nat) (h : lw_privs_7[i]? = some q) (hg : goodWord (Cond.selects q.1.cls q.1 q.1) = true) : Cond.selects q.1.cls q.1 q.1 ∈ gb_wA := gb_sl (List.mem_map.mpr ⟨q, List.mem_append_right _ (List.mem_append_right _ (List.mem_append_right _ (List.mem_append_right _ (List.mem_append_right _ (List.mem_append_right _ (List.mem_of_getElem? h)))))), rfl⟩) hg
end
section
/-! BLOCKS: cells that lie one behind another from an address on; rows that know the heap's size -/
def gb_wl : Nat → List va_E → va_W
  | _, [] => []
  | b, e :: r => (b, e) :: gb_wl (b + 1) r
theorem gb_get : ∀ (cs : List va_E) (b k : Nat), (gb_wl b cs)[k]? = (cs[k]?).map (fun e => (b + k, e))
  | [], _, _ => by simp [gb_wl]
  | e :: r, b, 0 => by simp [gb_wl]
  | e :: r, b, k + 1 => by
    rw [show gb_wl b (e :: r) = (b, e) :: gb_wl (b + 1) r from rfl, List.getElem?_cons_succ, List.getElem?_cons_succ, gb_get r (b + 1) k, show b + 1 + k = b + (k + 1) by omega]
theorem gb_at {cs : List va_E} {k : Nat} {e : va_E} (b : Nat) (h : cs[k]? = some e) : (gb_wl b cs)[k]? = some (b + k, e) := by
  rw [gb_get, h]
  rfl
theorem gb_of {cs : List va_E} {b k : Nat} {q : Nat × va_E} (h : (gb_wl b cs)[k]? = some q) : q.1 = b + k ∧ cs[k]? = some q.2 := by
  rw [gb_get] at h
  cases hc : cs[k]? with
  | none => rw [hc] at h; cases h
  | some e => rw [hc] at h; cases h; exact ⟨rfl, rfl⟩
theorem gb_set : ∀ (cs : List va_E) (b k : Nat) (e : va_E), (gb_wl b cs).set k (b + k, e) = gb_wl b (cs.set k e)
  | [], _, _, _ => by simp [gb_wl]
  | e0 :: r, b, 0, e => by simp [gb_wl]
  | e0 :: r, b, k + 1, e => by
    rw [show gb_wl b (e0 :: r) = (b, e0) :: gb_wl (b + 1) r from rfl, List.set_cons_succ, List.set_cons_succ, show b + (k + 1) = b + 1 + k by omega, gb_set r (b + 1) k e]
    rfl
theorem gb_app : ∀ (cs es : List va_E) (b : Nat), gb_wl b (cs ++ es) = gb_wl b cs ++ gb_wl (b + cs.length) es
  | [], es, b => by simp [gb_wl]
  | e :: r, es, b => by
    rw [List.cons_append, show gb_wl b (e :: (r ++ es)) = (b, e) :: gb_wl (b + 1) (r ++ es) from rfl, gb_app r es (b + 1), show gb_wl b (e :: r) = (b, e) :: gb_wl (b + 1) r from rfl, List.cons_append, List.length_cons, show b + 1 + r.length = b + (r.length + 1) by omega]
theorem gb_D {A : Nat → Prop} {b : Nat} {cs : List va_E} (h : ∀ k, k < cs.length → A (b + k)) : va_D A (gb_wl b cs) :=
  ⟨fun i j p q hi hj e => by have h1 := (gb_of hi).1; have h2 := (gb_of hj).1; omega, fun k q hk => by have h1 := gb_of hk; rw [h1.1]; exact h k (List.getElem?_eq_some_iff.mp h1.2).1⟩
/-- a block stays where the heap stays -/
theorem gb_kept {D : va_G} {cl : List vw_C} {b : Nat} {cs : List va_E} {H H1 : Heap} (h : va_P D cl (gb_wl b cs) H) (hq : ∀ q : Nat, b ≤ q → q < b + cs.length → H1[q]? = H[q]?) : va_P D cl (gb_wl b cs) H1 :=
  h.kept fun k q hk => by have h1 := gb_of hk; have h2 := (List.getElem?_eq_some_iff.mp h1.2).1; exact hq _ (by omega) (by omega)
section GBR
variable {p : Program} {l : Launch} {e : Env} {R : Room} {s : State} {m : MethodId} {args : Array Value} {below : List Frame} {meth : Method} {c : Code} {H : Heap} {locs : List Loc} {cells slots : Nat} {Q : State → Prop}
variable {cc : ByteArray} {pc : Nat} {ls : Array Slot} {rest : List Value} {D : va_G} {cl : List vw_C} {A : Nat → Prop} {tys : List (ClassId × FieldType)} {H0 : Heap} {b z : Nat} {cs : List va_E}
theorem gb_put (hexec : p.tables.exec = Jvm.exec) (hb : c.code = cc) {own ref C : String} {T : u_T} {N ci index : Nat} {Ts : List Cond} (hts : ∀ w ∈ Ts, w.before args s = true) (hin : ∀ w ∈ u_ws C T N, w ∈ Ts) (ty0 : Nat → FieldType) (hty : ∀ k, k < N → parseFieldDescriptor (T k).2.2.1 = some (ty0 k)) (hnm : ∀ a, a < N → ∀ b, b < N → a ≠ b → (T a).2.1 ≠ (T b).2.1) (hown : s.vm.findClass own = some m.cls) (hK : va_K D cl tys s) (hP : va_P D cl (gb_wl b cs) H) (hAb : ∀ k, k < cs.length → A (b + k)) (hS0 : va_S A H0 H locs) (hz : H.size = z) (q0 : Nat) {fs : List Value} (he : cs[q0]? = some (.inr (ci, fs))) (hc : cl[ci]? = some (C, T, N)) (k : Nat) (hk : k < N) (hlink : (Cond.fieldLink own index ref (T k).2.1 (T k).2.2.1).before args s = true) (hsame : ∀ x, s.fieldFound? (T k).1 (T k).2.1 (T k).2.2.1 = some x → s.fieldFound? ref (T k).2.1 (T k).2.2.1 = some x) (hfin : (T k).2.2.2 = false) {ty : FieldType} {v : Value} (hd : parseFieldDescriptor (T k).2.2.1 = some ty) (hn : narrow ty v = v) (hfit : fits ty v = true) (hl : k < fs.length)
    (hdg : decode cc pc = .ok (.putfield index, 3)) (kk : ∀ (H1 : Heap) (locs1 : List Loc), va_P D cl (gb_wl b (cs.set q0 (.inr (ci, fs.set k v)))) H1 → H1.size = z → va_S A H0 H1 locs1 → W p l e R s m args below meth c H1 locs1 cells slots Q (F0 m (pc + 3) ls rest)) : W p l e R s m args below meth c H locs cells slots Q (F0 m pc ls (v :: .ref (b + q0) :: rest)) := by
  have hD := gb_D hAb
  have he2 := gb_at b he
  have hap := va_apart (own := own) hts hin ty0 hty hnm hK hc
  obtain ⟨r, h1, cell, q1, q2, q3, q4⟩ := hP q0 _ he2
  have hr : r = (C, T, N) := Option.some.inj (h1.symm.trans hc)
  subst hr
  obtain ⟨hS, hfc, kC, hkC, hkind⟩ := hK.1 ci _ hc
  obtain ⟨cf, kf, fi, f, hi, hsl⟩ := hS k hk
  have hlay := hts _ (hin _ (u_in_lay hk))
  unfold u_lay at hlay
  rw [if_neg (by rw [hfin]; decide)] at hlay
  have hst := (u_facts hfc hkC (u_lays hts hin hk) hi).1
  have h6 := u_store hfc hkC hkind hlay hi hd hn hfit
  refine W.putK hexec hb (f := f) ⟨hown, hlink, ⟨_, _, _, hsame _ hi⟩, hst⟩ (by rw [q2]; exact h6) q1 q3 (by rw [hsl]; exact k2_hasslot (q4 k hk)) rfl rfl hdg fun H' e1 e2 e3 => ?_
  rw [hsl] at e1 ⊢
  exact kk H' _ (by rw [← gb_set]; exact hP.set hD he2 ⟨_, hc, t_OB.to (V := updV (vp_V fs) k v) ⟨_, e1, q2, q3, t_set q4 hap hk v⟩ (fun j _ => vp_updV_set hl v j)⟩ e3) (e2.trans hz) (hS0.put e2 e3 (hD.2 q0 _ he2))
theorem gb_putF (hexec : p.tables.exec = Jvm.exec) (hb : c.code = cc) {own ref C : String} {T : u_T} {N ci index : Nat} {Ts : List Cond} (hts : ∀ w ∈ Ts, w.before args s = true) (hin : ∀ w ∈ u_ws C T N, w ∈ Ts) (ty0 : Nat → FieldType) (hty : ∀ k, k < N → parseFieldDescriptor (T k).2.2.1 = some (ty0 k)) (hnm : ∀ a, a < N → ∀ b, b < N → a ≠ b → (T a).2.1 ≠ (T b).2.1) (hown : s.vm.findClass own = some m.cls) (hK : va_K D cl tys s) (hP : va_P D cl (gb_wl b cs) H) (hAb : ∀ k, k < cs.length → A (b + k)) (hS0 : va_S A H0 H locs) (hz : H.size = z) (q0 : Nat) {fs : List Value} (he : cs[q0]? = some (.inr (ci, fs))) (hc : cl[ci]? = some (C, T, N)) (k : Nat) (hk : k < N) (hlink : (Cond.fieldLink own index ref (T k).2.1 (T k).2.2.1).before args s = true) (hsame : ∀ x, s.fieldFound? (T k).1 (T k).2.1 (T k).2.2.1 = some x → s.fieldFound? ref (T k).2.1 (T k).2.2.1 = some x) (hfin : (T k).2.2.2 = true) (hin2 : meth.name = "<init>") (hdecl : (T k).1 = own) {ty : FieldType} {v : Value} (hd : parseFieldDescriptor (T k).2.2.1 = some ty) (hn : narrow ty v = v) (hfit : fits ty v = true) (hl : k < fs.length)
    (hdg : decode cc pc = .ok (.putfield index, 3)) (kk : ∀ (H1 : Heap) (locs1 : List Loc), va_P D cl (gb_wl b (cs.set q0 (.inr (ci, fs.set k v)))) H1 → H1.size = z → va_S A H0 H1 locs1 → W p l e R s m args below meth c H1 locs1 cells slots Q (F0 m (pc + 3) ls rest)) : W p l e R s m args below meth c H locs cells slots Q (F0 m pc ls (v :: .ref (b + q0) :: rest)) := by
  have hD := gb_D hAb
  have he2 := gb_at b he
  have hap := va_apart (own := own) hts hin ty0 hty hnm hK hc
  obtain ⟨r, h1, cell, q1, q2, q3, q4⟩ := hP q0 _ he2
  have hr : r = (C, T, N) := Option.some.inj (h1.symm.trans hc)
  subst hr
  obtain ⟨hS, hfc, kC, hkC, hkind⟩ := hK.1 ci _ hc
  obtain ⟨cf, kf, fi, f, hi, hsl⟩ := hS k hk
  have hlay := hts _ (hin _ (u_in_lay hk))
  unfold u_lay at hlay
  rw [if_pos hfin] at hlay
  have hst := (u_facts hfc hkC (u_lays hts hin hk) hi).1
  have hcf : m.cls = cf := by
    obtain ⟨_, _, c', _, _, _, -, -, hf', -, -, -, hown2, -⟩ := Cond.laysFinal_spec hlay
    have e1 : c' = cf := by have := hi.symm.trans hf'; simp at this; exact this.1.symm
    rw [hdecl] at hown2
    rw [← e1]; exact Option.some.inj (hown.symm.trans hown2)
  have h6 := u_fits hfc hkC hkind (Or.inr hlay) hi hd hn hfit
  refine W.putFinK hexec hb hown hlink (hsame _ hi) hst hcf hin2 (by rw [q2]; exact h6) q1 q3 (by rw [hsl]; exact k2_hasslot (q4 k hk)) rfl rfl hdg fun H' e1 e2 e3 => ?_
  rw [hsl] at e1 ⊢
  exact kk H' _ (by rw [← gb_set]; exact hP.set hD he2 ⟨_, hc, t_OB.to (V := updV (vp_V fs) k v) ⟨_, e1, q2, q3, t_set q4 hap hk v⟩ (fun j _ => vp_updV_set hl v j)⟩ e3) (e2.trans hz) (hS0.put e2 e3 (hD.2 q0 _ he2))
theorem gb_iast (hexec : p.tables.exec = Jvm.exec) (hb : c.code = cc) (hK : va_K D cl tys s) (hP : va_P D cl (gb_wl b cs) H) (hAb : ∀ k, k < cs.length → A (b + k)) (hS : va_S A H0 H locs) (hz : H.size = z) (q0 t0 : Nat) {cA : ClassId} {n : Nat} {f : Nat → Int32} (ha : cs[q0]? = some (.inl (cA, n, .inl f))) (ht : tys[t0]? = some (cA, .int)) {i : Int32} {x : Int32} (hin : vp_in i n) (hdg : decode cc pc = .ok (.iastore, 1))
    (kk : ∀ (H1 : Heap) (locs1 : List Loc), va_P D cl (gb_wl b (cs.set q0 (.inl (cA, n, .inl (upd f i.toNatClampNeg x))))) H1 → H1.size = z → va_S A H0 H1 locs1 → W p l e R s m args below meth c H1 locs1 cells slots Q (F0 m (pc + 1) ls rest)) : W p l e R s m args below meth c H locs cells slots Q (F0 m pc ls (.int x :: .int i :: .ref (b + q0) :: rest)) := by
  have hD := gb_D hAb
  have ha2 := gb_at b ha
  refine W.iast hexec hb (hP q0 _ ha2) ((hK.2 t0 _ ht).1 n (fun j => .int (f j))) (fun q => by cases q) (by show ¬ (i < 0 ∨ (arrV _ _ _).slots.size ≤ _); rw [arrV_size]; exact hin) rfl rfl hdg fun H1 e z2 oq => ?_
  refine kk H1 _ ?_ (z2.trans hz) (hS.put z2 oq (hD.2 q0 _ ha2))
  rw [← gb_set]
  refine hP.set hD ha2 ?_ oq
  show H1[b + q0]? = some (vp_cell _ _)
  rw [e]
  rw [vp_cell_i, vp_cell_i, arrV_store]
  congr 2
  funext q
  by_cases hq : q = i.toNatClampNeg
  · subst hq
    simp [updV, upd]
  · simp [updV, upd, hq]
/-- a reference into an array of its class, or of a wider one -/
theorem gb_astq (hexec : p.tables.exec = Jvm.exec) (hb : c.code = cc) (hK : va_K D cl tys s) (hP : va_P D cl (gb_wl b cs) H) (hAb : ∀ k, k < cs.length → A (b + k)) (hS : va_S A H0 H locs) (hz : H.size = z) (q0 t0 qk ci : Nat) {E : String} {cA : ClassId} {r : vw_C} {n : Nat} {vs : List Value} {f : Nat → Option Nat} (ha : cs[q0]? = some (.inl (cA, n, .inr (.inr (.inr (.inr f)))))) (ht : tys[t0]? = some (cA, .object E)) (hca : r.1 = E ∨ va_Nw (.castable r.1 E) s) (hv : cs[qk]? = some (.inr (ci, vs))) (hc : cl[ci]? = some r) {i : Int32} (hin : vp_in i n) (hdg : decode cc pc = .ok (.aastore, 1))
    (kk : ∀ (H1 : Heap) (locs1 : List Loc), va_P D cl (gb_wl b (cs.set q0 (.inl (cA, n, .inr (.inr (.inr (.inr (va_up f i.toNatClampNeg (some (b + qk)))))))))) H1 → H1.size = z → va_S A H0 H1 locs1 → W p l e R s m args below meth c H1 locs1 cells slots Q (F0 m (pc + 1) ls rest)) : W p l e R s m args below meth c H locs cells slots Q (F0 m pc ls (.ref (b + qk) :: .int i :: .ref (b + q0) :: rest)) := by
  have hD := gb_D hAb
  have ha2 := gb_at b ha
  have hlt : i.toNatClampNeg < n := Nat.not_le.mp fun q => hin (Or.inr q)
  have h0 : ¬ i < 0 := fun q => hin (Or.inl q)
  obtain ⟨r', hr', cellV, g1, g2, g3, -⟩ := hP qk _ (gb_at b hv)
  have hcls := (hK.1 ci r hc).2
  obtain ⟨kA, comp, k1, k2, k3, -⟩ := (hK.2 t0 _ ht).2
  obtain ⟨kE, hkE, -⟩ := Vm.findClass_spec k3
  obtain ⟨kC, hkC, -⟩ := hcls.2
  have hasg : s.vm.assignable (D.1 ci) comp = true := by
    rcases hca with hca | hca
    · have hcomp : comp = D.1 ci := Option.some.inj (k3.symm.trans (by rw [← hca]; exact hcls.1))
      rw [hcomp]
      exact va_assign hcls
    · obtain ⟨c0, t1, f1, f2, f3⟩ := Cond.castable_spec (va_Nw.use (A := args) rfl hca)
      cases hcls.1.symm.trans f1
      cases k3.symm.trans f2
      exact f3
  refine W.aast hexec hb (hP q0 _ ha2) (fun q h => by cases h) (fun h => by cases h) k1 k2 rfl hkE ⟨h0, by show _ < (arrV _ _ _).slots.size; rw [arrV_size]; exact hlt⟩ g1 (fun q h => by rw [g3] at h; cases h) (by rw [g2]; exact hkC) (by rw [g2]; exact hasg) rfl rfl hdg fun H1 e z2 oq => ?_
  refine kk H1 _ ?_ (z2.trans hz) (hS.put z2 oq (hD.2 q0 _ ha2))
  rw [← gb_set]
  refine hP.set hD ha2 ?_ oq
  show H1[b + q0]? = some (vp_cell _ _)
  rw [e]
  rw [vp_cell_q, vp_cell_q, arrV_store]
  congr 2
  funext q
  by_cases hq : q = i.toNatClampNeg
  · subst hq
    simp [updV, va_up, va_rf]
  · simp [updV, va_up, hq]
/-- a new object, at the heap's end, which is the block's -/
theorem gb_new (hexec : p.tables.exec = Jvm.exec) (hb : c.code = cc) {own C : String} {T : u_T} {N ci index : Nat} {Ts : List Cond} (hts : ∀ w ∈ Ts, w.before args s = true) (hin : ∀ w ∈ u_ws C T N, w ∈ Ts) (ty : Nat → FieldType) (hty : ∀ k, k < N → parseFieldDescriptor (T k).2.2.1 = some (ty k)) (hown : s.vm.findClass own = some m.cls) (hcl : (Cond.classLink own index C).before args s = true) (hinst : (Cond.instantiable C N).before args s = true) (hini : (Cond.initialized C).before args s = true)
    (hK : va_K D cl tys s) (hP : va_P D cl (gb_wl b cs) H) (hS : va_S A H0 H locs) (n : Nat) (hz : H.size = b + n) (hn : cs.length = n) (hc : cl[ci]? = some (C, T, N)) {fs : List Value} (hfs : ∀ j, j < N → defaultValue (ty j) = vp_V fs j) (hcells : cells + 1 ≤ R.cells) (hslots : slots + N ≤ R.slots) (hdg : decode cc pc = .ok (.new index, 3))
    (kk : ∀ (H1 : Heap), va_P D cl (gb_wl b (cs ++ [.inr (ci, fs)])) H1 → H1.size = b + (n + 1) → va_S A H0 H1 locs →
      W p l e R s m args below meth c H1 locs (cells + 1) (slots + N) Q (F0 m (pc + 3) ls (.ref (b + n) :: rest))) : W p l e R s m args below meth c H locs cells slots Q (F0 m pc ls rest) := by
  have hKn := hK.1 ci _ hc
  refine W.newcK hexec hb hown hcl hinst hini rfl hdg hcells hslots hKn.2.1 hz fun H1 kC hkC e1 z1 o1 => ?_
  have hk : ∀ (k : Nat) (x : Nat × va_E), (gb_wl b cs)[k]? = some x → H1[x.1]? = H[x.1]? := fun k x hx => o1 x.1 (by rw [← hz]; exact (hP k x hx).lt)
  refine kk H1 ?_ (by omega) ⟨Nat.le_trans hS.1 (by omega), fun x h1 h2 => (o1 x (by rw [← hz]; exact Nat.lt_of_lt_of_le h1 hS.1)).trans (hS.2.1 x h1 h2), hS.2.2⟩
  rw [gb_app]
  refine (hP.kept hk).app (fun k x hx => ?_)
  have h9 := gb_of hx
  have hz9 : k < 1 := (List.getElem?_eq_some_iff.mp h9.2).1
  have hk0 : k = 0 := by omega
  subst hk0
  obtain ⟨x1, x2⟩ := x
  obtain ⟨h8, h7⟩ := h9
  cases h7
  have h8 : x1 = b + n := by rw [← hn]; exact h8
  subst h8
  exact ⟨_, hc, (u_born ty hts hin hKn hkC e1 hty).to hfs⟩
/-- a new array of whole numbers, at the heap's end, of the class that the tables have for it -/
theorem gb_newa (hexec : p.tables.exec = Jvm.exec) (hb : c.code = cc) {atype : ArrayType} (harr : (Cond.arrayClass (newarray.typeOf atype)).before args s = true) {ty : FieldType} (hty : newarray.typeOf atype = ty) (hK : va_K D cl tys s) (hP : va_P D cl (gb_wl b cs) H) (hS : va_S A H0 H locs) (n : Nat) (hz : H.size = b + n) (hcn : cs.length = n) (t0 : Nat) {cA : ClassId} (ht : tys[t0]? = some (cA, ty)) (hfc : va_RA s cA ty → s.vm.findClass ("[" ++ ty.toString) = some cA)
    {x : Int32} {N' : Nat} {a0 : vp_A} (ha : ∀ cA : ClassId, vp_cell cA a0 = arrV cA N' (fun _ => defaultValue ty)) (hn : ¬ x < 0) (hN : x.toNatClampNeg = N') (hbytes : N' * componentBytes ty ≤ 536870912) (hcells : cells + 1 ≤ R.cells) (hslots : slots + N' ≤ R.slots) (hdg : decode cc pc = .ok (.newarray atype, 2))
    (kk : ∀ (H1 : Heap), va_P D cl (gb_wl b (cs ++ [.inl (cA, a0)])) H1 → H1.size = b + (n + 1) → va_S A H0 H1 locs →
      W p l e R s m args below meth c H1 locs (cells + 1) (slots + N') Q (F0 m (pc + 2) ls (.ref (b + n) :: rest))) : W p l e R s m args below meth c H locs cells slots Q (F0 m pc ls (.int x :: rest)) := by
  subst hty
  refine va_newaK hexec hb harr rfl hdg rfl hn hN hbytes hcells hslots hz fun H1 cB e1 z1 o1 hAr hNm => ?_
  have hcB : cB = cA := Option.some.inj (hNm.symm.trans (hfc (hK.2 t0 _ ht).2))
  subst hcB
  have hk : ∀ (k : Nat) (x : Nat × va_E), (gb_wl b cs)[k]? = some x → H1[x.1]? = H[x.1]? := fun k x hx => o1 x.1 (by rw [← hz]; exact (hP k x hx).lt)
  refine kk H1 ?_ (by omega) ⟨Nat.le_trans hS.1 (by omega), fun x h1 h2 => (o1 x (by rw [← hz]; exact Nat.lt_of_lt_of_le h1 hS.1)).trans (hS.2.1 x h1 h2), hS.2.2⟩
  rw [gb_app]
  refine (hP.kept hk).app (fun k x hx => ?_)
  have h9 := gb_of hx
  have hz9 : k < 1 := (List.getElem?_eq_some_iff.mp h9.2).1
  have hk0 : k = 0 := by omega
  subst hk0
  obtain ⟨x1, x2⟩ := x
  obtain ⟨h8, h7⟩ := h9
  cases h7
  have h8 : x1 = b + n := by rw [← hcn]; exact h8
  subst h8
  show H1[b + n]? = some (vp_cell _ _)
  rw [ha]
  exact e1
/-- a new array of references, at the heap's end -/
theorem gb_newq (hexec : p.tables.exec = Jvm.exec) (hb : c.code = cc) {own C : String} {index : Nat} (hown : s.vm.findClass own = some m.cls) (hclink : (Cond.classLink own index C).before args s = true) (hover : va_AO C s) (hK : va_K D cl tys s) (hP : va_P D cl (gb_wl b cs) H) (hS : va_S A H0 H locs) (n : Nat) (hz : H.size = b + n) (hcn : cs.length = n) (t0 : Nat) {cA : ClassId} (ht : tys[t0]? = some (cA, .object C))
    {x : Int32} {N' : Nat} (hn : ¬ x < 0) (hN : x.toNatClampNeg = N') (hbytes : N' * 4 ≤ 536870912) (hcells : cells + 1 ≤ R.cells) (hslots : slots + N' ≤ R.slots) (hdg : decode cc pc = .ok (.anewarray index, 3))
    (kk : ∀ (H1 : Heap), va_P D cl (gb_wl b (cs ++ [.inl (cA, N', .inr (.inr (.inr (.inr (fun _ => none)))))])) H1 → H1.size = b + (n + 1) → va_S A H0 H1 locs →
      W p l e R s m args below meth c H1 locs (cells + 1) (slots + N') Q (F0 m (pc + 3) ls (.ref (b + n) :: rest))) : W p l e R s m args below meth c H locs cells slots Q (F0 m pc ls (.int x :: rest)) := by
  subst hN
  refine W.anew hexec hb hown hclink (va_AO.use hover) rfl hdg rfl hn hbytes hcells hslots fun cB kA comp f1 f2 f3 f4 => ?_
  obtain ⟨kA2, comp2, g1, g2, g3, g4⟩ := (hK.2 t0 _ ht).2
  have hcB : cB = cA := Option.some.inj (f1.symm.trans g4)
  subst hcB
  generalize hH1 : H.push ({ cls := cB, slots := Array.replicate x.toNatClampNeg .null, vm := .none } : Cell) = H1
  have z1 : H1.size = H.size + 1 := by rw [← hH1, Array.size_push]
  have e1 : H1[H.size]? = some (arrV cB x.toNatClampNeg (fun _ => .null)) := by rw [← hH1, Array.getElem?_push_size, ← arrV_new]
  have o1 : ∀ q : Nat, q < H.size → H1[q]? = H[q]? := fun q hq => by rw [← hH1, Array.getElem?_push, if_neg (Nat.ne_of_lt hq)]
  have hk : ∀ (k : Nat) (x : Nat × va_E), (gb_wl b cs)[k]? = some x → H1[x.1]? = H[x.1]? := fun k x hx => o1 x.1 ((hP k x hx).lt)
  rw [hz]
  refine kk H1 ?_ (by omega) ⟨Nat.le_trans hS.1 (by omega), fun x h1 h2 => (o1 x (Nat.lt_of_lt_of_le h1 hS.1)).trans (hS.2.1 x h1 h2), hS.2.2⟩
  rw [gb_app]
  refine (hP.kept hk).app (fun k x hx => ?_)
  have h9 := gb_of hx
  have hz9 : k < 1 := (List.getElem?_eq_some_iff.mp h9.2).1
  have hk0 : k = 0 := by omega
  subst hk0
  obtain ⟨x1, x2⟩ := x
  obtain ⟨h8, h7⟩ := h9
  cases h7
  have h8 : x1 = H.size := by rw [hz, ← hcn]; exact h8
  subst h8
  show H1[H.size]? = some (vp_cell _ _)
  rw [vp_cell_q]
  exact e1
end GBR
end
section
def RX0 : String := "GooseBorder$Border"
def TX0 : u_T := fun k => match k with
  | _ => ("GooseBorder$Sheet", "cells", "[I", true)
def tyX0 : Nat → FieldType := fun k => match k with
  | _ => .array .int
abbrev wsX00 : List Cond := u_ws RX0 TX0 1
theorem nmX0 : ∀ a, a < 1 → ∀ b, b < 1 → a ≠ b → (TX0 a).2.1 ≠ (TX0 b).2.1 := by decide +kernel
theorem tyX0_ok : ∀ k, k < 1 → parseFieldDescriptor (TX0 k).2.2.1 = some (tyX0 k) := by decide +kernel
abbrev cX0_init : ByteArray := prog_2_method_1_code
def yX0_init : MethodName := ⟨RX0, "<init>", "()V"⟩
abbrev cX0_clear : ByteArray := prog_2_method_2_code
def yX0_clear : MethodName := ⟨RX0, "clear", "()V"⟩
abbrev cX0_hasRoomFor : ByteArray := prog_2_method_3_code
def yX0_hasRoomFor : MethodName := ⟨RX0, "hasRoomFor", "(I)Z"⟩
abbrev cX0_addLine : ByteArray := prog_2_method_4_code
def yX0_addLine : MethodName := ⟨RX0, "addLine", "(I[I)V"⟩
abbrev cX0_clashes : ByteArray := prog_2_method_5_code
def yX0_clashes : MethodName := ⟨RX0, "clashes", "()Z"⟩
abbrev cX0_paths : ByteArray := prog_2_method_6_code
def yX0_paths : MethodName := ⟨RX0, "paths", "()I"⟩
abbrev cX0_geese : ByteArray := prog_2_method_7_code
def yX0_geese : MethodName := ⟨RX0, "geese", "()I"⟩
abbrev cX0_cap : ByteArray := prog_2_method_8_code
def yX0_cap : MethodName := ⟨RX0, "cap", "()I"⟩
abbrev cX0_hasPath : ByteArray := prog_2_method_9_code
def yX0_hasPath : MethodName := ⟨RX0, "hasPath", "(I)Z"⟩
abbrev cX0_hasGoose : ByteArray := prog_2_method_10_code
def yX0_hasGoose : MethodName := ⟨RX0, "hasGoose", "(I)Z"⟩
abbrev cX0_numberTold : ByteArray := prog_2_method_11_code
def yX0_numberTold : MethodName := ⟨RX0, "numberTold", "(I)I"⟩
abbrev cX0_miles : ByteArray := prog_2_method_12_code
def yX0_miles : MethodName := ⟨RX0, "miles", "(I)I"⟩
abbrev cX0_rate : ByteArray := prog_2_method_13_code
def yX0_rate : MethodName := ⟨RX0, "rate", "(I)I"⟩
abbrev cX0_pad : ByteArray := prog_2_method_14_code
def yX0_pad : MethodName := ⟨RX0, "pad", "(I)I"⟩
abbrev cX0_toes : ByteArray := prog_2_method_15_code
def yX0_toes : MethodName := ⟨RX0, "toes", "(I)I"⟩
abbrev cX0_boots : ByteArray := prog_2_method_16_code
def yX0_boots : MethodName := ⟨RX0, "boots", "(I)I"⟩
abbrev cX0_limps : ByteArray := prog_2_method_17_code
def yX0_limps : MethodName := ⟨RX0, "limps", "(I)Z"⟩
abbrev cX0_worth : ByteArray := prog_2_method_18_code
def yX0_worth : MethodName := ⟨RX0, "worth", "(I)I"⟩
abbrev cX0_worthOf : ByteArray := prog_2_method_19_code
def yX0_worthOf : MethodName := ⟨RX0, "worthOf", "(I)I"⟩
abbrev cX0_marksFirst : ByteArray := prog_2_method_20_code
def yX0_marksFirst : MethodName := ⟨RX0, "marksFirst", "(II)I"⟩
abbrev cX0_marksOver : ByteArray := prog_2_method_21_code
def yX0_marksOver : MethodName := ⟨RX0, "marksOver", "(IIIZ)I"⟩
abbrev cX0_padded : ByteArray := prog_2_method_22_code
def yX0_padded : MethodName := ⟨RX0, "padded", "(II)I"⟩
abbrev cX0_payOf : ByteArray := prog_2_method_23_code
def yX0_payOf : MethodName := ⟨RX0, "payOf", "(II)I"⟩
abbrev cX0_barefoot : ByteArray := prog_2_method_24_code
def yX0_barefoot : MethodName := ⟨RX0, "barefoot", "(I)I"⟩
abbrev cX0_milesThatSpare : ByteArray := prog_2_method_25_code
def yX0_milesThatSpare : MethodName := ⟨RX0, "milesThatSpare", "(II)I"⟩
def RX1 : String := "GooseBorder$Dawn"
def TX1 : u_T := fun k => match k with
  | 0 => ("GooseBorder$Lines", "most", "I", true)
  | 1 => ("GooseBorder$Lines", "numbers", "I", true)
  | 2 => ("GooseBorder$Lines", "firstLine", "I", true)
  | _ => ("GooseBorder$Sheet", "cells", "[I", true)
def tyX1 : Nat → FieldType := fun k => match k with
  | 0 => .int
  | 1 => .int
  | 2 => .int
  | _ => .array .int
abbrev wsX10 : List Cond := u_ws RX1 TX1 4
theorem nmX1 : ∀ a, a < 4 → ∀ b, b < 4 → a ≠ b → (TX1 a).2.1 ≠ (TX1 b).2.1 := by decide +kernel
theorem tyX1_ok : ∀ k, k < 4 → parseFieldDescriptor (TX1 k).2.2.1 = some (tyX1 k) := by decide +kernel
abbrev cX1_init : ByteArray := prog_3_method_1_code
def yX1_init : MethodName := ⟨RX1, "<init>", "()V"⟩
abbrev cX1_clashes : ByteArray := prog_3_method_2_code
def yX1_clashes : MethodName := ⟨RX1, "clashes", "()Z"⟩
abbrev cX1_pathSeen : ByteArray := prog_3_method_3_code
def yX1_pathSeen : MethodName := ⟨RX1, "pathSeen", "(I)I"⟩
abbrev cX1_marksSeen : ByteArray := prog_3_method_4_code
def yX1_marksSeen : MethodName := ⟨RX1, "marksSeen", "(I)I"⟩
abbrev cX1_leftOn : ByteArray := prog_3_method_5_code
def yX1_leftOn : MethodName := ⟨RX1, "leftOn", "(I)I"⟩
def RX2 : String := "GooseBorder$Flocks"
def TX2 : u_T := fun k => match k with
  | 0 => ("GooseBorder$Flocks", "sums", "[I", true)
  | 1 => ("GooseBorder$Flocks", "others", "[I", true)
  | 2 => ("GooseBorder$Flocks", "ways", "[J", false)
  | 3 => ("GooseBorder$Flocks", "next", "[J", false)
  | 4 => ("GooseBorder$Flocks", "sets", "I", false)
  | _ => ("GooseBorder$Flocks", "apart", "I", false)
def tyX2 : Nat → FieldType := fun k => match k with
  | 0 => .array .int
  | 1 => .array .int
  | 2 => .array .long
  | 3 => .array .long
  | 4 => .int
  | _ => .int
abbrev wsX20 : List Cond := u_ws RX2 TX2 6
theorem nmX2 : ∀ a, a < 6 → ∀ b, b < 6 → a ≠ b → (TX2 a).2.1 ≠ (TX2 b).2.1 := by decide +kernel
theorem tyX2_ok : ∀ k, k < 6 → parseFieldDescriptor (TX2 k).2.2.1 = some (tyX2 k) := by decide +kernel
abbrev cX2_init : ByteArray := prog_4_method_1_code
def yX2_init : MethodName := ⟨RX2, "<init>", "()V"⟩
abbrev cX2_sumUp : ByteArray := prog_4_method_2_code
def yX2_sumUp : MethodName := ⟨RX2, "sumUp", "(LGooseBorder$Border;I[I)V"⟩
abbrev cX2_marksOfAny : ByteArray := prog_4_method_3_code
def yX2_marksOfAny : MethodName := ⟨RX2, "marksOfAny", "(LGooseBorder$Border;IIZ)I"⟩
abbrev cX2_evenest : ByteArray := prog_4_method_4_code
def yX2_evenest : MethodName := ⟨RX2, "evenest", "(LGooseBorder$Border;II)I"⟩
abbrev cX2_fewestBackwards : ByteArray := prog_4_method_5_code
def yX2_fewestBackwards : MethodName := ⟨RX2, "fewestBackwards", "(LGooseBorder$Border;II)I"⟩
abbrev cX2_nearest : ByteArray := prog_4_method_6_code
def yX2_nearest : MethodName := ⟨RX2, "nearest", "(LGooseBorder$Border;II)I"⟩
abbrev cX2_thriftiest : ByteArray := prog_4_method_7_code
def yX2_thriftiest : MethodName := ⟨RX2, "thriftiest", "(LGooseBorder$Border;)I"⟩
abbrev cX2_paysAll : ByteArray := prog_4_method_8_code
def yX2_paysAll : MethodName := ⟨RX2, "paysAll", "(LGooseBorder$Border;II)Z"⟩
abbrev cX2_findWays : ByteArray := prog_4_method_9_code
def yX2_findWays : MethodName := ⟨RX2, "findWays", "(LGooseBorder$Border;LGooseBorder$Dawn;II)V"⟩
abbrev cX2_goBy : ByteArray := prog_4_method_10_code
def yX2_goBy : MethodName := ⟨RX2, "goBy", "(II)V"⟩
abbrev cX2_addGoing : ByteArray := prog_4_method_11_code
def yX2_addGoing : MethodName := ⟨RX2, "addGoing", "(I)V"⟩
abbrev cX2_allWays : ByteArray := prog_4_method_12_code
def yX2_allWays : MethodName := ⟨RX2, "allWays", "()J"⟩
abbrev cX2_fewestGone : ByteArray := prog_4_method_13_code
def yX2_fewestGone : MethodName := ⟨RX2, "fewestGone", "()I"⟩
abbrev cX2_mostGone : ByteArray := prog_4_method_14_code
def yX2_mostGone : MethodName := ⟨RX2, "mostGone", "()I"⟩
abbrev cX2_sureOnes : ByteArray := prog_4_method_15_code
def yX2_sureOnes : MethodName := ⟨RX2, "sureOnes", "()I"⟩
abbrev cX2_pathsInAnyWay : ByteArray := prog_4_method_16_code
def yX2_pathsInAnyWay : MethodName := ⟨RX2, "pathsInAnyWay", "(LGooseBorder$Border;LGooseBorder$Dawn;I)I"⟩
def RX3 : String := "GooseBorder$Law"
def TX3 : u_T := fun k => match k with
  | 0 => ("GooseBorder$Lines", "most", "I", true)
  | 1 => ("GooseBorder$Lines", "numbers", "I", true)
  | 2 => ("GooseBorder$Lines", "firstLine", "I", true)
  | _ => ("GooseBorder$Sheet", "cells", "[I", true)
def tyX3 : Nat → FieldType := fun k => match k with
  | 0 => .int
  | 1 => .int
  | 2 => .int
  | _ => .array .int
abbrev wsX30 : List Cond := u_ws RX3 TX3 4
theorem nmX3 : ∀ a, a < 4 → ∀ b, b < 4 → a ≠ b → (TX3 a).2.1 ≠ (TX3 b).2.1 := by decide +kernel
theorem tyX3_ok : ∀ k, k < 4 → parseFieldDescriptor (TX3 k).2.2.1 = some (tyX3 k) := by decide +kernel
abbrev cX3_init : ByteArray := prog_5_method_1_code
def yX3_init : MethodName := ⟨RX3, "<init>", "()V"⟩
abbrev cX3_payFor : ByteArray := prog_5_method_2_code
def yX3_payFor : MethodName := ⟨RX3, "payFor", "(I)I"⟩
def RX4 : String := "GooseBorder$Lines"
def TX4 : u_T := fun k => match k with
  | _ => ("", "", "", false)
def tyX4 : Nat → FieldType := fun k => match k with
  | _ => .int
abbrev wsX40 : List Cond := u_ws RX4 TX4 0
theorem nmX4 : ∀ a, a < 0 → ∀ b, b < 0 → a ≠ b → (TX4 a).2.1 ≠ (TX4 b).2.1 := by decide +kernel
theorem tyX4_ok : ∀ k, k < 0 → parseFieldDescriptor (TX4 k).2.2.1 = some (tyX4 k) := by decide +kernel
abbrev cX4_init : ByteArray := prog_6_method_1_code
def yX4_init : MethodName := ⟨RX4, "<init>", "(III)V"⟩
abbrev cX4_clear : ByteArray := prog_6_method_2_code
def yX4_clear : MethodName := ⟨RX4, "clear", "()V"⟩
abbrev cX4_hasRoomFor : ByteArray := prog_6_method_3_code
def yX4_hasRoomFor : MethodName := ⟨RX4, "hasRoomFor", "(I)Z"⟩
abbrev cX4_addLine : ByteArray := prog_6_method_4_code
def yX4_addLine : MethodName := ⟨RX4, "addLine", "(I[I)V"⟩
abbrev cX4_clashes : ByteArray := prog_6_method_5_code
def yX4_clashes : MethodName := ⟨RX4, "clashes", "()Z"⟩
abbrev cX4_size : ByteArray := prog_6_method_6_code
def yX4_size : MethodName := ⟨RX4, "size", "()I"⟩
abbrev cX4_kind : ByteArray := prog_6_method_7_code
def yX4_kind : MethodName := ⟨RX4, "kind", "(I)I"⟩
abbrev cX4_cell : ByteArray := prog_6_method_8_code
def yX4_cell : MethodName := ⟨RX4, "cell", "(II)I"⟩
def RX5 : String := "GooseBorder$Night"
def TX5 : u_T := fun k => match k with
  | 0 => ("GooseBorder$Lines", "most", "I", true)
  | 1 => ("GooseBorder$Lines", "numbers", "I", true)
  | 2 => ("GooseBorder$Lines", "firstLine", "I", true)
  | _ => ("GooseBorder$Sheet", "cells", "[I", true)
def tyX5 : Nat → FieldType := fun k => match k with
  | 0 => .int
  | 1 => .int
  | 2 => .int
  | _ => .array .int
abbrev wsX50 : List Cond := u_ws RX5 TX5 4
theorem nmX5 : ∀ a, a < 4 → ∀ b, b < 4 → a ≠ b → (TX5 a).2.1 ≠ (TX5 b).2.1 := by decide +kernel
theorem tyX5_ok : ∀ k, k < 4 → parseFieldDescriptor (TX5 k).2.2.1 = some (tyX5 k) := by decide +kernel
abbrev cX5_init : ByteArray := prog_7_method_1_code
def yX5_init : MethodName := ⟨RX5, "<init>", "()V"⟩
abbrev cX5_changeWithNext : ByteArray := prog_7_method_2_code
def yX5_changeWithNext : MethodName := ⟨RX5, "changeWithNext", "(I)V"⟩
def RX6 : String := "GooseBorder$Play"
def TX6 : u_T := fun k => match k with
  | 0 => ("GooseBorder$Play", "border", "LGooseBorder$Border;", false)
  | 1 => ("GooseBorder$Play", "where", "[I", true)
  | 2 => ("GooseBorder$Play", "boots", "[I", true)
  | 3 => ("GooseBorder$Play", "trail", "[I", true)
  | 4 => ("GooseBorder$Play", "latest", "[I", true)
  | 5 => ("GooseBorder$Play", "marks", "[I", true)
  | 6 => ("GooseBorder$Play", "exports", "[I", true)
  | 7 => ("GooseBorder$Play", "washed", "[I", true)
  | 8 => ("GooseBorder$Play", "gone", "[I", true)
  | 9 => ("GooseBorder$Play", "recast", "I", false)
  | 10 => ("GooseBorder$Play", "frost", "Z", false)
  | _ => ("GooseBorder$Play", "done", "I", false)
def tyX6 : Nat → FieldType := fun k => match k with
  | 0 => .object "GooseBorder$Border"
  | 1 => .array .int
  | 2 => .array .int
  | 3 => .array .int
  | 4 => .array .int
  | 5 => .array .int
  | 6 => .array .int
  | 7 => .array .int
  | 8 => .array .int
  | 9 => .int
  | 10 => .boolean
  | _ => .int
abbrev wsX60 : List Cond := u_ws RX6 TX6 12
theorem nmX6 : ∀ a, a < 12 → ∀ b, b < 12 → a ≠ b → (TX6 a).2.1 ≠ (TX6 b).2.1 := by decide +kernel
theorem tyX6_ok : ∀ k, k < 12 → parseFieldDescriptor (TX6 k).2.2.1 = some (tyX6 k) := by decide +kernel
abbrev cX6_init : ByteArray := prog_8_method_1_code
def yX6_init : MethodName := ⟨RX6, "<init>", "()V"⟩
abbrev cX6_begin : ByteArray := prog_8_method_2_code
def yX6_begin : MethodName := ⟨RX6, "begin", "(LGooseBorder$Border;)V"⟩
abbrev cX6_run : ByteArray := prog_8_method_3_code
def yX6_run : MethodName := ⟨RX6, "run", "(LGooseBorder$Border;LGooseBorder$Night;II)V"⟩
abbrev cX6_canBe : ByteArray := prog_8_method_4_code
def yX6_canBe : MethodName := ⟨RX6, "canBe", "(LGooseBorder$Night;I)Z"⟩
abbrev cX6_stands : ByteArray := prog_8_method_5_code
def yX6_stands : MethodName := ⟨RX6, "stands", "(II)Z"⟩
abbrev cX6_doDeed : ByteArray := prog_8_method_6_code
def yX6_doDeed : MethodName := ⟨RX6, "doDeed", "(LGooseBorder$Night;IZ)V"⟩
abbrev cX6_go : ByteArray := prog_8_method_7_code
def yX6_go : MethodName := ⟨RX6, "go", "(III[I)V"⟩
abbrev cX6_rainDown : ByteArray := prog_8_method_8_code
def yX6_rainDown : MethodName := ⟨RX6, "rainDown", "(I)V"⟩
abbrev cX6_eat : ByteArray := prog_8_method_9_code
def yX6_eat : MethodName := ⟨RX6, "eat", "(I)V"⟩
abbrev cX6_latestGoer : ByteArray := prog_8_method_10_code
def yX6_latestGoer : MethodName := ⟨RX6, "latestGoer", "(I)I"⟩
abbrev cX6_tally : ByteArray := prog_8_method_11_code
def yX6_tally : MethodName := ⟨RX6, "tally", "(I)I"⟩
abbrev cX6_allTallies : ByteArray := prog_8_method_12_code
def yX6_allTallies : MethodName := ⟨RX6, "allTallies", "()I"⟩
abbrev cX6_allPay : ByteArray := prog_8_method_13_code
def yX6_allPay : MethodName := ⟨RX6, "allPay", "()I"⟩
abbrev cX6_whoIs : ByteArray := prog_8_method_14_code
def yX6_whoIs : MethodName := ⟨RX6, "whoIs", "(I)I"⟩
abbrev cX6_worn : ByteArray := prog_8_method_15_code
def yX6_worn : MethodName := ⟨RX6, "worn", "()I"⟩
abbrev cX6_payBy : ByteArray := prog_8_method_16_code
def yX6_payBy : MethodName := ⟨RX6, "payBy", "(I)I"⟩
abbrev cX6_payTold : ByteArray := prog_8_method_17_code
def yX6_payTold : MethodName := ⟨RX6, "payTold", "(II)I"⟩
abbrev cX6_taken : ByteArray := prog_8_method_18_code
def yX6_taken : MethodName := ⟨RX6, "taken", "(II)I"⟩
abbrev cX6_isAtRest : ByteArray := prog_8_method_19_code
def yX6_isAtRest : MethodName := ⟨RX6, "isAtRest", "(I)Z"⟩
def RX7 : String := "GooseBorder$Reader"
def TX7 : u_T := fun k => match k with
  | 0 => ("GooseBorder$Reader", "numbers", "[I", true)
  | 1 => ("GooseBorder$Reader", "tape", "[B", false)
  | 2 => ("GooseBorder$Reader", "length", "I", false)
  | 3 => ("GooseBorder$Reader", "at", "I", false)
  | 4 => ("GooseBorder$Reader", "fault", "I", false)
  | _ => ("GooseBorder$Reader", "place", "I", false)
def tyX7 : Nat → FieldType := fun k => match k with
  | 0 => .array .int
  | 1 => .array .byte
  | 2 => .int
  | 3 => .int
  | 4 => .int
  | _ => .int
abbrev wsX70 : List Cond := u_ws RX7 TX7 6
theorem nmX7 : ∀ a, a < 6 → ∀ b, b < 6 → a ≠ b → (TX7 a).2.1 ≠ (TX7 b).2.1 := by decide +kernel
theorem tyX7_ok : ∀ k, k < 6 → parseFieldDescriptor (TX7 k).2.2.1 = some (tyX7 k) := by decide +kernel
abbrev cX7_init : ByteArray := prog_9_method_1_code
def yX7_init : MethodName := ⟨RX7, "<init>", "()V"⟩
abbrev cX7_read : ByteArray := prog_9_method_2_code
def yX7_read : MethodName := ⟨RX7, "read", "([BIILGooseBorder$Sheet;)V"⟩
abbrev cX7_readLine : ByteArray := prog_9_method_3_code
def yX7_readLine : MethodName := ⟨RX7, "readLine", "(ILGooseBorder$Sheet;)Z"⟩
abbrev cX7_takeWord : ByteArray := prog_9_method_4_code
def yX7_takeWord : MethodName := ⟨RX7, "takeWord", "(I)I"⟩
abbrev cX7_isWord : ByteArray := prog_9_method_5_code
def yX7_isWord : MethodName := ⟨RX7, "isWord", "(Ljava/lang/String;I)Z"⟩
abbrev cX7_takeNumber : ByteArray := prog_9_method_6_code
def yX7_takeNumber : MethodName := ⟨RX7, "takeNumber", "(II)Z"⟩
abbrev cX7_canBe : ByteArray := prog_9_method_7_code
def yX7_canBe : MethodName := ⟨RX7, "canBe", "(III)Z"⟩
abbrev cX7_note : ByteArray := prog_9_method_8_code
def yX7_note : MethodName := ⟨RX7, "note", "(II)V"⟩
abbrev cX7_skipBlanks : ByteArray := prog_9_method_9_code
def yX7_skipBlanks : MethodName := ⟨RX7, "skipBlanks", "()V"⟩
abbrev cX7_wordOf : ByteArray := prog_9_method_10_code
def yX7_wordOf : MethodName := ⟨RX7, "wordOf", "(I)Ljava/lang/String;"⟩
def RX8 : String := "GooseBorder$Sharing"
def TX8 : u_T := fun k => match k with
  | 0 => ("GooseBorder$Sharing", "border", "LGooseBorder$Border;", false)
  | 1 => ("GooseBorder$Sharing", "law", "LGooseBorder$Law;", false)
  | 2 => ("GooseBorder$Sharing", "marks", "[I", true)
  | 3 => ("GooseBorder$Sharing", "open", "[I", true)
  | 4 => ("GooseBorder$Sharing", "opened", "I", false)
  | 5 => ("GooseBorder$Sharing", "row", "[I", true)
  | 6 => ("GooseBorder$Sharing", "tallies", "[I", true)
  | 7 => ("GooseBorder$Sharing", "pay", "[I", true)
  | 8 => ("GooseBorder$Sharing", "best", "[I", true)
  | 9 => ("GooseBorder$Sharing", "bestPay", "[I", true)
  | _ => ("GooseBorder$Sharing", "bestValue", "I", false)
def tyX8 : Nat → FieldType := fun k => match k with
  | 0 => .object "GooseBorder$Border"
  | 1 => .object "GooseBorder$Law"
  | 2 => .array .int
  | 3 => .array .int
  | 4 => .int
  | 5 => .array .int
  | 6 => .array .int
  | 7 => .array .int
  | 8 => .array .int
  | 9 => .array .int
  | _ => .int
abbrev wsX80 : List Cond := u_ws RX8 TX8 11
theorem nmX8 : ∀ a, a < 11 → ∀ b, b < 11 → a ≠ b → (TX8 a).2.1 ≠ (TX8 b).2.1 := by decide +kernel
theorem tyX8_ok : ∀ k, k < 11 → parseFieldDescriptor (TX8 k).2.2.1 = some (tyX8 k) := by decide +kernel
abbrev cX8_init : ByteArray := prog_10_method_1_code
def yX8_init : MethodName := ⟨RX8, "<init>", "()V"⟩
abbrev cX8_canShare : ByteArray := prog_10_method_2_code
def yX8_canShare : MethodName := ⟨RX8, "canShare", "(LGooseBorder$Border;)Z"⟩
abbrev cX8_difference : ByteArray := prog_10_method_3_code
def yX8_difference : MethodName := ⟨RX8, "difference", "()I"⟩
abbrev cX8_solve : ByteArray := prog_10_method_4_code
def yX8_solve : MethodName := ⟨RX8, "solve", "(LGooseBorder$Border;LGooseBorder$Law;I)V"⟩
abbrev cX8_begin : ByteArray := prog_10_method_5_code
def yX8_begin : MethodName := ⟨RX8, "begin", "(LGooseBorder$Border;LGooseBorder$Law;I)V"⟩
abbrev cX8_advance : ByteArray := prog_10_method_6_code
def yX8_advance : MethodName := ⟨RX8, "advance", "()V"⟩
abbrev cX8_payAnew : ByteArray := prog_10_method_7_code
def yX8_payAnew : MethodName := ⟨RX8, "payAnew", "(I)V"⟩
abbrev cX8_spread : ByteArray := prog_10_method_8_code
def yX8_spread : MethodName := ⟨RX8, "spread", "()I"⟩
abbrev cX8_together : ByteArray := prog_10_method_9_code
def yX8_together : MethodName := ⟨RX8, "together", "()I"⟩
abbrev cX8_keepRow : ByteArray := prog_10_method_10_code
def yX8_keepRow : MethodName := ⟨RX8, "keepRow", "()V"⟩
def RX9 : String := "GooseBorder$Sheet"
def TX9 : u_T := fun k => match k with
  | _ => ("", "", "", false)
def tyX9 : Nat → FieldType := fun k => match k with
  | _ => .int
abbrev wsX90 : List Cond := u_ws RX9 TX9 0
theorem nmX9 : ∀ a, a < 0 → ∀ b, b < 0 → a ≠ b → (TX9 a).2.1 ≠ (TX9 b).2.1 := by decide +kernel
theorem tyX9_ok : ∀ k, k < 0 → parseFieldDescriptor (TX9 k).2.2.1 = some (tyX9 k) := by decide +kernel
abbrev cX9_init : ByteArray := prog_11_method_1_code
def yX9_init : MethodName := ⟨RX9, "<init>", "(I)V"⟩
abbrev cX9_copyFrom : ByteArray := prog_11_method_2_code
def yX9_copyFrom : MethodName := ⟨RX9, "copyFrom", "(LGooseBorder$Sheet;)V"⟩
def RX10 : String := "GooseBorder$Told"
def TX10 : u_T := fun k => match k with
  | 0 => ("GooseBorder$Told", "borders", "[LGooseBorder$Border;", true)
  | 1 => ("GooseBorder$Told", "nights", "[LGooseBorder$Night;", true)
  | 2 => ("GooseBorder$Told", "laws", "[LGooseBorder$Law;", true)
  | 3 => ("GooseBorder$Told", "dawns", "[LGooseBorder$Dawn;", true)
  | 4 => ("GooseBorder$Told", "held", "[I", true)
  | 5 => ("GooseBorder$Told", "tape", "[B", true)
  | 6 => ("GooseBorder$Told", "length", "I", false)
  | 7 => ("GooseBorder$Told", "fault", "I", false)
  | _ => ("GooseBorder$Told", "place", "I", false)
def tyX10 : Nat → FieldType := fun k => match k with
  | 0 => .array (.object "GooseBorder$Border")
  | 1 => .array (.object "GooseBorder$Night")
  | 2 => .array (.object "GooseBorder$Law")
  | 3 => .array (.object "GooseBorder$Dawn")
  | 4 => .array .int
  | 5 => .array .byte
  | 6 => .int
  | 7 => .int
  | _ => .int
abbrev wsX100 : List Cond := u_ws RX10 TX10 9
theorem nmX10 : ∀ a, a < 9 → ∀ b, b < 9 → a ≠ b → (TX10 a).2.1 ≠ (TX10 b).2.1 := by decide +kernel
theorem tyX10_ok : ∀ k, k < 9 → parseFieldDescriptor (TX10 k).2.2.1 = some (tyX10 k) := by decide +kernel
abbrev cX10_init : ByteArray := prog_12_method_1_code
def yX10_init : MethodName := ⟨RX10, "<init>", "()V"⟩
abbrev cX10_addBytes : ByteArray := prog_12_method_2_code
def yX10_addBytes : MethodName := ⟨RX10, "addBytes", "(I)V"⟩
abbrev cX10_sheetOf : ByteArray := prog_12_method_3_code
def yX10_sheetOf : MethodName := ⟨RX10, "sheetOf", "(II)LGooseBorder$Sheet;"⟩
abbrev cX10_copyFrom : ByteArray := prog_12_method_4_code
def yX10_copyFrom : MethodName := ⟨RX10, "copyFrom", "(LGooseBorder$Told;)V"⟩
def RX11 : String := "GooseBorder"
def TX11 : u_T := fun k => match k with
  | 0 => ("GooseBorder", "now", "LGooseBorder$Told;", true)
  | 1 => ("GooseBorder", "images", "[LGooseBorder$Told;", true)
  | 2 => ("GooseBorder", "kept", "[Z", true)
  | 3 => ("GooseBorder", "drafts", "[LGooseBorder$Sheet;", true)
  | 4 => ("GooseBorder", "changed", "LGooseBorder$Night;", true)
  | 5 => ("GooseBorder", "reader", "LGooseBorder$Reader;", true)
  | 6 => ("GooseBorder", "play", "LGooseBorder$Play;", true)
  | 7 => ("GooseBorder", "sharing", "LGooseBorder$Sharing;", true)
  | 8 => ("GooseBorder", "flocks", "LGooseBorder$Flocks;", true)
  | _ => ("GooseBorder", "chance", "I", false)
def tyX11 : Nat → FieldType := fun k => match k with
  | 0 => .object "GooseBorder$Told"
  | 1 => .array (.object "GooseBorder$Told")
  | 2 => .array .boolean
  | 3 => .array (.object "GooseBorder$Sheet")
  | 4 => .object "GooseBorder$Night"
  | 5 => .object "GooseBorder$Reader"
  | 6 => .object "GooseBorder$Play"
  | 7 => .object "GooseBorder$Sharing"
  | 8 => .object "GooseBorder$Flocks"
  | _ => .int
abbrev wsX110 : List Cond := u_ws RX11 TX11 10
theorem nmX11 : ∀ a, a < 10 → ∀ b, b < 10 → a ≠ b → (TX11 a).2.1 ≠ (TX11 b).2.1 := by decide +kernel
theorem tyX11_ok : ∀ k, k < 10 → parseFieldDescriptor (TX11 k).2.2.1 = some (tyX11 k) := by decide +kernel
abbrev cX11_init : ByteArray := prog_1_method_1_code
def yX11_init : MethodName := ⟨RX11, "<init>", "()V"⟩
abbrev cX11_feed : ByteArray := prog_1_method_2_code
def yX11_feed : MethodName := ⟨RX11, "feed", "(IIIII)I"⟩
abbrev cX11_end : ByteArray := prog_1_method_3_code
def yX11_end : MethodName := ⟨RX11, "end", "(I)I"⟩
abbrev cX11_text : ByteArray := prog_1_method_4_code
def yX11_text : MethodName := ⟨RX11, "text", "(II)I"⟩
abbrev cX11_fault : ByteArray := prog_1_method_5_code
def yX11_fault : MethodName := ⟨RX11, "fault", "(I)I"⟩
abbrev cX11_count : ByteArray := prog_1_method_6_code
def yX11_count : MethodName := ⟨RX11, "count", "(I)I"⟩
abbrev cX11_image : ByteArray := prog_1_method_7_code
def yX11_image : MethodName := ⟨RX11, "image", "(I)Z"⟩
abbrev cX11_again : ByteArray := prog_1_method_8_code
def yX11_again : MethodName := ⟨RX11, "again", "(I)Z"⟩
abbrev cX11_border : ByteArray := prog_1_method_9_code
def yX11_border : MethodName := ⟨RX11, "border", "(II)I"⟩
abbrev cX11_marks : ByteArray := prog_1_method_10_code
def yX11_marks : MethodName := ⟨RX11, "marks", "(IIIZ)I"⟩
abbrev cX11_deed : ByteArray := prog_1_method_11_code
def yX11_deed : MethodName := ⟨RX11, "deed", "(III)I"⟩
abbrev cX11_term : ByteArray := prog_1_method_12_code
def yX11_term : MethodName := ⟨RX11, "term", "(III)I"⟩
abbrev cX11_seen : ByteArray := prog_1_method_13_code
def yX11_seen : MethodName := ⟨RX11, "seen", "(III)I"⟩
abbrev cX11_pays : ByteArray := prog_1_method_14_code
def yX11_pays : MethodName := ⟨RX11, "pays", "(II)I"⟩
abbrev cX11_lineOf : ByteArray := prog_1_method_15_code
def yX11_lineOf : MethodName := ⟨RX11, "lineOf", "(LGooseBorder$Lines;II)I"⟩
abbrev cX11_borderAt : ByteArray := prog_1_method_16_code
def yX11_borderAt : MethodName := ⟨RX11, "borderAt", "(I)LGooseBorder$Border;"⟩
abbrev cX11_nightAt : ByteArray := prog_1_method_17_code
def yX11_nightAt : MethodName := ⟨RX11, "nightAt", "(I)LGooseBorder$Night;"⟩
abbrev cX11_lawAt : ByteArray := prog_1_method_18_code
def yX11_lawAt : MethodName := ⟨RX11, "lawAt", "(I)LGooseBorder$Law;"⟩
abbrev cX11_dawnAt : ByteArray := prog_1_method_19_code
def yX11_dawnAt : MethodName := ⟨RX11, "dawnAt", "(I)LGooseBorder$Dawn;"⟩
abbrev cX11_stop : ByteArray := prog_1_method_20_code
def yX11_stop : MethodName := ⟨RX11, "stop", "(II)I"⟩
abbrev cX11_goose : ByteArray := prog_1_method_21_code
def yX11_goose : MethodName := ⟨RX11, "goose", "(IIIII)I"⟩
abbrev cX11_path : ByteArray := prog_1_method_22_code
def yX11_path : MethodName := ⟨RX11, "path", "(IIIII)I"⟩
abbrev cX11_state : ByteArray := prog_1_method_23_code
def yX11_state : MethodName := ⟨RX11, "state", "(IIII)I"⟩
abbrev cX11_playedOut : ByteArray := prog_1_method_24_code
def yX11_playedOut : MethodName := ⟨RX11, "playedOut", "(LGooseBorder$Border;LGooseBorder$Night;)Z"⟩
abbrev cX11_playedTo : ByteArray := prog_1_method_25_code
def yX11_playedTo : MethodName := ⟨RX11, "playedTo", "(LGooseBorder$Border;LGooseBorder$Night;I)Z"⟩
abbrev cX11_rest : ByteArray := prog_1_method_26_code
def yX11_rest : MethodName := ⟨RX11, "rest", "(III)I"⟩
abbrev cX11_take : ByteArray := prog_1_method_27_code
def yX11_take : MethodName := ⟨RX11, "take", "(IIII)I"⟩
abbrev cX11_honest : ByteArray := prog_1_method_28_code
def yX11_honest : MethodName := ⟨RX11, "honest", "(III)I"⟩
abbrev cX11_lacks : ByteArray := prog_1_method_29_code
def yX11_lacks : MethodName := ⟨RX11, "lacks", "(III)I"⟩
abbrev cX11_who : ByteArray := prog_1_method_30_code
def yX11_who : MethodName := ⟨RX11, "who", "(IIII)I"⟩
abbrev cX11_shift : ByteArray := prog_1_method_31_code
def yX11_shift : MethodName := ⟨RX11, "shift", "(IIZ)I"⟩
abbrev cX11_even : ByteArray := prog_1_method_32_code
def yX11_even : MethodName := ⟨RX11, "even", "(II)I"⟩
abbrev cX11_richest : ByteArray := prog_1_method_33_code
def yX11_richest : MethodName := ⟨RX11, "richest", "(III)I"⟩
abbrev cX11_close : ByteArray := prog_1_method_34_code
def yX11_close : MethodName := ⟨RX11, "close", "(IZ)I"⟩
abbrev cX11_tar : ByteArray := prog_1_method_35_code
def yX11_tar : MethodName := ⟨RX11, "tar", "(III)I"⟩
abbrev cX11_lame : ByteArray := prog_1_method_36_code
def yX11_lame : MethodName := ⟨RX11, "lame", "(III)I"⟩
abbrev cX11_bestPath : ByteArray := prog_1_method_37_code
def yX11_bestPath : MethodName := ⟨RX11, "bestPath", "(LGooseBorder$Border;I)I"⟩
abbrev cX11_two : ByteArray := prog_1_method_38_code
def yX11_two : MethodName := ⟨RX11, "two", "(IIII)I"⟩
abbrev cX11_alike : ByteArray := prog_1_method_39_code
def yX11_alike : MethodName := ⟨RX11, "alike", "(III)I"⟩
abbrev cX11_span : ByteArray := prog_1_method_40_code
def yX11_span : MethodName := ⟨RX11, "span", "(IIIZ)I"⟩
abbrev cX11_split : ByteArray := prog_1_method_41_code
def yX11_split : MethodName := ⟨RX11, "split", "(IIIZ)I"⟩
abbrev cX11_backs : ByteArray := prog_1_method_42_code
def yX11_backs : MethodName := ⟨RX11, "backs", "(IIIZ)I"⟩
abbrev cX11_near : ByteArray := prog_1_method_43_code
def yX11_near : MethodName := ⟨RX11, "near", "(III)I"⟩
abbrev cX11_thrift : ByteArray := prog_1_method_44_code
def yX11_thrift : MethodName := ⟨RX11, "thrift", "(I)I"⟩
abbrev cX11_fits : ByteArray := prog_1_method_45_code
def yX11_fits : MethodName := ⟨RX11, "fits", "(II)J"⟩
abbrev cX11_told : ByteArray := prog_1_method_46_code
def yX11_told : MethodName := ⟨RX11, "told", "(III)I"⟩
abbrev cX11_toeOf : ByteArray := prog_1_method_47_code
def yX11_toeOf : MethodName := ⟨RX11, "toeOf", "(LGooseBorder$Border;LGooseBorder$Dawn;)I"⟩
abbrev cX11_drawn : ByteArray := prog_1_method_48_code
def yX11_drawn : MethodName := ⟨RX11, "drawn", "(IIII)I"⟩
abbrev cX11_isDrawnOf : ByteArray := prog_1_method_49_code
def yX11_isDrawnOf : MethodName := ⟨RX11, "isDrawnOf", "(LGooseBorder$Border;I)Z"⟩
abbrev cX11_drawnNight : ByteArray := prog_1_method_50_code
def yX11_drawnNight : MethodName := ⟨RX11, "drawnNight", "(LGooseBorder$Border;I)I"⟩
abbrev cX11_numberBelow : ByteArray := prog_1_method_51_code
def yX11_numberBelow : MethodName := ⟨RX11, "numberBelow", "(I)I"⟩
def RX12 : String := "GooseBorderModel"
def TX12 : u_T := fun k => match k with
  | 0 => ("GooseBorderModel", "all", "[I", true)
  | 1 => ("GooseBorderModel", "has", "[Z", true)
  | 2 => ("GooseBorderModel", "size", "I", false)
  | 3 => ("GooseBorderModel", "next", "I", false)
  | 4 => ("GooseBorderModel", "where", "I", false)
  | 5 => ("GooseBorderModel", "token", "I", false)
  | 6 => ("GooseBorderModel", "number", "I", false)
  | 7 => ("GooseBorderModel", "word", "I", false)
  | 8 => ("GooseBorderModel", "wrong", "Z", false)
  | 9 => ("GooseBorderModel", "twice", "Z", false)
  | 10 => ("GooseBorderModel", "read", "[I", true)
  | 11 => ("GooseBorderModel", "b0", "I", false)
  | 12 => ("GooseBorderModel", "n0", "I", false)
  | 13 => ("GooseBorderModel", "at", "[I", true)
  | 14 => ("GooseBorderModel", "boots", "[I", true)
  | 15 => ("GooseBorderModel", "trail", "[I", true)
  | 16 => ("GooseBorderModel", "lastPath", "[I", true)
  | 17 => ("GooseBorderModel", "shod", "[Z", true)
  | 18 => ("GooseBorderModel", "gone", "[I", true)
  | 19 => ("GooseBorderModel", "marked", "[I", true)
  | 20 => ("GooseBorderModel", "exported", "[I", true)
  | 21 => ("GooseBorderModel", "washed", "[I", true)
  | 22 => ("GooseBorderModel", "frost", "Z", false)
  | 23 => ("GooseBorderModel", "done", "I", false)
  | 24 => ("GooseBorderModel", "spared", "I", false)
  | 25 => ("GooseBorderModel", "l0", "I", false)
  | 26 => ("GooseBorderModel", "firsts", "[I", true)
  | 27 => ("GooseBorderModel", "sum", "[I", true)
  | 28 => ("GooseBorderModel", "bestCode", "I", false)
  | 29 => ("GooseBorderModel", "d0", "I", false)
  | 30 => ("GooseBorderModel", "due", "[I", true)
  | 31 => ("GooseBorderModel", "choice", "[I", true)
  | 32 => ("GooseBorderModel", "added", "[Z", true)
  | 33 => ("GooseBorderModel", "ways", "J", false)
  | 34 => ("GooseBorderModel", "fewest", "I", false)
  | 35 => ("GooseBorderModel", "most", "I", false)
  | 36 => ("GooseBorderModel", "sure", "I", false)
  | 37 => ("GooseBorderModel", "by", "[I", true)
  | 38 => ("GooseBorderModel", "x0", "I", false)
  | 39 => ("GooseBorderModel", "tallies", "[I", true)
  | 40 => ("GooseBorderModel", "trails", "[I", true)
  | 41 => ("GooseBorderModel", "paid", "I", false)
  | 42 => ("GooseBorderModel", "children", "I", false)
  | _ => ("GooseBorderModel", "put", "[Z", true)
def tyX12 : Nat → FieldType := fun k => match k with
  | 0 => .array .int
  | 1 => .array .boolean
  | 2 => .int
  | 3 => .int
  | 4 => .int
  | 5 => .int
  | 6 => .int
  | 7 => .int
  | 8 => .boolean
  | 9 => .boolean
  | 10 => .array .int
  | 11 => .int
  | 12 => .int
  | 13 => .array .int
  | 14 => .array .int
  | 15 => .array .int
  | 16 => .array .int
  | 17 => .array .boolean
  | 18 => .array .int
  | 19 => .array .int
  | 20 => .array .int
  | 21 => .array .int
  | 22 => .boolean
  | 23 => .int
  | 24 => .int
  | 25 => .int
  | 26 => .array .int
  | 27 => .array .int
  | 28 => .int
  | 29 => .int
  | 30 => .array .int
  | 31 => .array .int
  | 32 => .array .boolean
  | 33 => .long
  | 34 => .int
  | 35 => .int
  | 36 => .int
  | 37 => .array .int
  | 38 => .int
  | 39 => .array .int
  | 40 => .array .int
  | 41 => .int
  | 42 => .int
  | _ => .array .boolean
abbrev wsX120 : List Cond := u_ws RX12 TX12 44
theorem nmX12 : ∀ a, a < 44 → ∀ b, b < 44 → a ≠ b → (TX12 a).2.1 ≠ (TX12 b).2.1 := by decide +kernel
theorem tyX12_ok : ∀ k, k < 44 → parseFieldDescriptor (TX12 k).2.2.1 = some (tyX12 k) := by decide +kernel
abbrev cX12_init : ByteArray := prog_14_method_1_code
def yX12_init : MethodName := ⟨RX12, "<init>", "()V"⟩
abbrev cX12_isIn : ByteArray := prog_14_method_2_code
def yX12_isIn : MethodName := ⟨RX12, "isIn", "(III)Z"⟩
abbrev cX12_feed : ByteArray := prog_14_method_3_code
def yX12_feed : MethodName := ⟨RX12, "feed", "(IIIII)I"⟩
abbrev cX12_end : ByteArray := prog_14_method_4_code
def yX12_end : MethodName := ⟨RX12, "end", "(I)I"⟩
abbrev cX12_byteAt : ByteArray := prog_14_method_5_code
def yX12_byteAt : MethodName := ⟨RX12, "byteAt", "(I)I"⟩
abbrev cX12_isLetter : ByteArray := prog_14_method_6_code
def yX12_isLetter : MethodName := ⟨RX12, "isLetter", "(I)Z"⟩
abbrev cX12_isDigit : ByteArray := prog_14_method_7_code
def yX12_isDigit : MethodName := ⟨RX12, "isDigit", "(I)Z"⟩
abbrev cX12_four : ByteArray := prog_14_method_8_code
def yX12_four : MethodName := ⟨RX12, "four", "(IIII)J"⟩
abbrev cX12_eight : ByteArray := prog_14_method_9_code
def yX12_eight : MethodName := ⟨RX12, "eight", "(IIIIIIII)J"⟩
abbrev cX12_wordOf : ByteArray := prog_14_method_10_code
def yX12_wordOf : MethodName := ⟨RX12, "wordOf", "(J)I"⟩
abbrev cX12_advance : ByteArray := prog_14_method_11_code
def yX12_advance : MethodName := ⟨RX12, "advance", "()V"⟩
abbrev cX12_ends : ByteArray := prog_14_method_12_code
def yX12_ends : MethodName := ⟨RX12, "ends", "()V"⟩
abbrev cX12_also : ByteArray := prog_14_method_13_code
def yX12_also : MethodName := ⟨RX12, "also", "(II)V"⟩
abbrev cX12_numbered : ByteArray := prog_14_method_14_code
def yX12_numbered : MethodName := ⟨RX12, "numbered", "(II)I"⟩
abbrev cX12_takes : ByteArray := prog_14_method_15_code
def yX12_takes : MethodName := ⟨RX12, "takes", "(II)I"⟩
abbrev cX12_endsLine : ByteArray := prog_14_method_16_code
def yX12_endsLine : MethodName := ⟨RX12, "endsLine", "()V"⟩
abbrev cX12_pathLine : ByteArray := prog_14_method_17_code
def yX12_pathLine : MethodName := ⟨RX12, "pathLine", "(I)V"⟩
abbrev cX12_gooseLine : ByteArray := prog_14_method_18_code
def yX12_gooseLine : MethodName := ⟨RX12, "gooseLine", "(I)V"⟩
abbrev cX12_borderLine : ByteArray := prog_14_method_19_code
def yX12_borderLine : MethodName := ⟨RX12, "borderLine", "()V"⟩
abbrev cX12_gooseTold : ByteArray := prog_14_method_20_code
def yX12_gooseTold : MethodName := ⟨RX12, "gooseTold", "()I"⟩
abbrev cX12_pathTold : ByteArray := prog_14_method_21_code
def yX12_pathTold : MethodName := ⟨RX12, "pathTold", "()I"⟩
abbrev cX12_adds : ByteArray := prog_14_method_22_code
def yX12_adds : MethodName := ⟨RX12, "adds", "(IIIIII)V"⟩
abbrev cX12_deedLine : ByteArray := prog_14_method_23_code
def yX12_deedLine : MethodName := ⟨RX12, "deedLine", "()V"⟩
abbrev cX12_termLine : ByteArray := prog_14_method_24_code
def yX12_termLine : MethodName := ⟨RX12, "termLine", "()V"⟩
abbrev cX12_seenLine : ByteArray := prog_14_method_25_code
def yX12_seenLine : MethodName := ⟨RX12, "seenLine", "()V"⟩
abbrev cX12_placeOf : ByteArray := prog_14_method_26_code
def yX12_placeOf : MethodName := ⟨RX12, "placeOf", "(II)I"⟩
abbrev cX12_sizeOf : ByteArray := prog_14_method_27_code
def yX12_sizeOf : MethodName := ⟨RX12, "sizeOf", "(I)I"⟩
abbrev cX12_isOf : ByteArray := prog_14_method_28_code
def yX12_isOf : MethodName := ⟨RX12, "isOf", "(II)Z"⟩
abbrev cX12_text : ByteArray := prog_14_method_29_code
def yX12_text : MethodName := ⟨RX12, "text", "(II)I"⟩
abbrev cX12_fault : ByteArray := prog_14_method_30_code
def yX12_fault : MethodName := ⟨RX12, "fault", "(I)I"⟩
abbrev cX12_isBorder : ByteArray := prog_14_method_31_code
def yX12_isBorder : MethodName := ⟨RX12, "isBorder", "(I)Z"⟩
abbrev cX12_of : ByteArray := prog_14_method_32_code
def yX12_of : MethodName := ⟨RX12, "of", "(I)I"⟩
abbrev cX12_paths : ByteArray := prog_14_method_33_code
def yX12_paths : MethodName := ⟨RX12, "paths", "()I"⟩
abbrev cX12_geese : ByteArray := prog_14_method_34_code
def yX12_geese : MethodName := ⟨RX12, "geese", "()I"⟩
abbrev cX12_isPath : ByteArray := prog_14_method_35_code
def yX12_isPath : MethodName := ⟨RX12, "isPath", "(I)Z"⟩
abbrev cX12_isGoose : ByteArray := prog_14_method_36_code
def yX12_isGoose : MethodName := ⟨RX12, "isGoose", "(I)Z"⟩
abbrev cX12_ofPath : ByteArray := prog_14_method_37_code
def yX12_ofPath : MethodName := ⟨RX12, "ofPath", "(II)I"⟩
abbrev cX12_ofGoose : ByteArray := prog_14_method_38_code
def yX12_ofGoose : MethodName := ⟨RX12, "ofGoose", "(II)I"⟩
abbrev cX12_border : ByteArray := prog_14_method_39_code
def yX12_border : MethodName := ⟨RX12, "border", "(II)I"⟩
abbrev cX12_left : ByteArray := prog_14_method_40_code
def yX12_left : MethodName := ⟨RX12, "left", "(IIIZI)I"⟩
abbrev cX12_firstMarks : ByteArray := prog_14_method_41_code
def yX12_firstMarks : MethodName := ⟨RX12, "firstMarks", "(II)I"⟩
abbrev cX12_marks : ByteArray := prog_14_method_42_code
def yX12_marks : MethodName := ⟨RX12, "marks", "(IIIZ)I"⟩
abbrev cX12_deeds : ByteArray := prog_14_method_43_code
def yX12_deeds : MethodName := ⟨RX12, "deeds", "()I"⟩
abbrev cX12_deedOf : ByteArray := prog_14_method_44_code
def yX12_deedOf : MethodName := ⟨RX12, "deedOf", "(II)I"⟩
abbrev cX12_deed : ByteArray := prog_14_method_45_code
def yX12_deed : MethodName := ⟨RX12, "deed", "(III)I"⟩
abbrev cX12_begins : ByteArray := prog_14_method_46_code
def yX12_begins : MethodName := ⟨RX12, "begins", "()V"⟩
abbrev cX12_foxed : ByteArray := prog_14_method_47_code
def yX12_foxed : MethodName := ⟨RX12, "foxed", "(I)I"⟩
abbrev cX12_isAt : ByteArray := prog_14_method_48_code
def yX12_isAt : MethodName := ⟨RX12, "isAt", "(II)Z"⟩
abbrev cX12_can : ByteArray := prog_14_method_49_code
def yX12_can : MethodName := ⟨RX12, "can", "(I)Z"⟩
abbrev cX12_walks : ByteArray := prog_14_method_50_code
def yX12_walks : MethodName := ⟨RX12, "walks", "(IIIZI)V"⟩
abbrev cX12_rains : ByteArray := prog_14_method_51_code
def yX12_rains : MethodName := ⟨RX12, "rains", "(I)V"⟩
abbrev cX12_does : ByteArray := prog_14_method_52_code
def yX12_does : MethodName := ⟨RX12, "does", "(I)V"⟩
abbrev cX12_areTold : ByteArray := prog_14_method_53_code
def yX12_areTold : MethodName := ⟨RX12, "areTold", "(II)Z"⟩
abbrev cX12_runs : ByteArray := prog_14_method_54_code
def yX12_runs : MethodName := ⟨RX12, "runs", "(I)V"⟩
abbrev cX12_stop : ByteArray := prog_14_method_55_code
def yX12_stop : MethodName := ⟨RX12, "stop", "(II)I"⟩
abbrev cX12_isState : ByteArray := prog_14_method_56_code
def yX12_isState : MethodName := ⟨RX12, "isState", "(III)Z"⟩
abbrev cX12_goose : ByteArray := prog_14_method_57_code
def yX12_goose : MethodName := ⟨RX12, "goose", "(IIIII)I"⟩
abbrev cX12_tally : ByteArray := prog_14_method_58_code
def yX12_tally : MethodName := ⟨RX12, "tally", "(I)I"⟩
abbrev cX12_padded : ByteArray := prog_14_method_59_code
def yX12_padded : MethodName := ⟨RX12, "padded", "(II)I"⟩
abbrev cX12_pay : ByteArray := prog_14_method_60_code
def yX12_pay : MethodName := ⟨RX12, "pay", "(I)I"⟩
abbrev cX12_allPay : ByteArray := prog_14_method_61_code
def yX12_allPay : MethodName := ⟨RX12, "allPay", "()I"⟩
abbrev cX12_path : ByteArray := prog_14_method_62_code
def yX12_path : MethodName := ⟨RX12, "path", "(IIIII)I"⟩
abbrev cX12_worn : ByteArray := prog_14_method_63_code
def yX12_worn : MethodName := ⟨RX12, "worn", "()I"⟩
abbrev cX12_state : ByteArray := prog_14_method_64_code
def yX12_state : MethodName := ⟨RX12, "state", "(IIII)I"⟩
abbrev cX12_termOf : ByteArray := prog_14_method_65_code
def yX12_termOf : MethodName := ⟨RX12, "termOf", "(II)I"⟩
abbrev cX12_term : ByteArray := prog_14_method_66_code
def yX12_term : MethodName := ⟨RX12, "term", "(III)I"⟩
abbrev cX12_paysBy : ByteArray := prog_14_method_67_code
def yX12_paysBy : MethodName := ⟨RX12, "paysBy", "(I)I"⟩
abbrev cX12_pays : ByteArray := prog_14_method_68_code
def yX12_pays : MethodName := ⟨RX12, "pays", "(II)I"⟩
abbrev cX12_measures : ByteArray := prog_14_method_69_code
def yX12_measures : MethodName := ⟨RX12, "measures", "()V"⟩
abbrev cX12_codes : ByteArray := prog_14_method_70_code
def yX12_codes : MethodName := ⟨RX12, "codes", "()I"⟩
abbrev cX12_sums : ByteArray := prog_14_method_71_code
def yX12_sums : MethodName := ⟨RX12, "sums", "(I)V"⟩
abbrev cX12_payOf : ByteArray := prog_14_method_72_code
def yX12_payOf : MethodName := ⟨RX12, "payOf", "(I)I"⟩
abbrev cX12_worthOf : ByteArray := prog_14_method_73_code
def yX12_worthOf : MethodName := ⟨RX12, "worthOf", "(IZ)I"⟩
abbrev cX12_bestWorth : ByteArray := prog_14_method_74_code
def yX12_bestWorth : MethodName := ⟨RX12, "bestWorth", "(Z)I"⟩
abbrev cX12_canMarch : ByteArray := prog_14_method_75_code
def yX12_canMarch : MethodName := ⟨RX12, "canMarch", "(I)Z"⟩
abbrev cX12_figure : ByteArray := prog_14_method_76_code
def yX12_figure : MethodName := ⟨RX12, "figure", "(I)I"⟩
abbrev cX12_even : ByteArray := prog_14_method_77_code
def yX12_even : MethodName := ⟨RX12, "even", "(II)I"⟩
abbrev cX12_richest : ByteArray := prog_14_method_78_code
def yX12_richest : MethodName := ⟨RX12, "richest", "(III)I"⟩
abbrev cX12_tar : ByteArray := prog_14_method_79_code
def yX12_tar : MethodName := ⟨RX12, "tar", "(III)I"⟩
abbrev cX12_lamePay : ByteArray := prog_14_method_80_code
def yX12_lamePay : MethodName := ⟨RX12, "lamePay", "(IZ)I"⟩
abbrev cX12_bestPath : ByteArray := prog_14_method_81_code
def yX12_bestPath : MethodName := ⟨RX12, "bestPath", "(I)I"⟩
abbrev cX12_lame : ByteArray := prog_14_method_82_code
def yX12_lame : MethodName := ⟨RX12, "lame", "(III)I"⟩
abbrev cX12_takeOf : ByteArray := prog_14_method_83_code
def yX12_takeOf : MethodName := ⟨RX12, "takeOf", "(II)I"⟩
abbrev cX12_isRest : ByteArray := prog_14_method_84_code
def yX12_isRest : MethodName := ⟨RX12, "isRest", "(I)Z"⟩
abbrev cX12_rest : ByteArray := prog_14_method_85_code
def yX12_rest : MethodName := ⟨RX12, "rest", "(III)I"⟩
abbrev cX12_take : ByteArray := prog_14_method_86_code
def yX12_take : MethodName := ⟨RX12, "take", "(IIII)I"⟩
abbrev cX12_honest : ByteArray := prog_14_method_87_code
def yX12_honest : MethodName := ⟨RX12, "honest", "(III)I"⟩
abbrev cX12_seenOf : ByteArray := prog_14_method_88_code
def yX12_seenOf : MethodName := ⟨RX12, "seenOf", "(II)I"⟩
abbrev cX12_seen : ByteArray := prog_14_method_89_code
def yX12_seen : MethodName := ⟨RX12, "seen", "(III)I"⟩
abbrev cX12_isWhole : ByteArray := prog_14_method_90_code
def yX12_isWhole : MethodName := ⟨RX12, "isWhole", "()Z"⟩
abbrev cX12_counts : ByteArray := prog_14_method_91_code
def yX12_counts : MethodName := ⟨RX12, "counts", "()V"⟩
abbrev cX12_opens : ByteArray := prog_14_method_92_code
def yX12_opens : MethodName := ⟨RX12, "opens", "()V"⟩
abbrev cX12_isNext : ByteArray := prog_14_method_93_code
def yX12_isNext : MethodName := ⟨RX12, "isNext", "(I)Z"⟩
abbrev cX12_tries : ByteArray := prog_14_method_94_code
def yX12_tries : MethodName := ⟨RX12, "tries", "()V"⟩
abbrev cX12_areSeen : ByteArray := prog_14_method_95_code
def yX12_areSeen : MethodName := ⟨RX12, "areSeen", "(II)Z"⟩
abbrev cX12_fits : ByteArray := prog_14_method_96_code
def yX12_fits : MethodName := ⟨RX12, "fits", "(II)J"⟩
abbrev cX12_toe : ByteArray := prog_14_method_97_code
def yX12_toe : MethodName := ⟨RX12, "toe", "()I"⟩
abbrev cX12_told : ByteArray := prog_14_method_98_code
def yX12_told : MethodName := ⟨RX12, "told", "(III)I"⟩
abbrev cX12_lacks : ByteArray := prog_14_method_99_code
def yX12_lacks : MethodName := ⟨RX12, "lacks", "(III)I"⟩
abbrev cX12_who : ByteArray := prog_14_method_100_code
def yX12_who : MethodName := ⟨RX12, "who", "(IIII)I"⟩
abbrev cX12_below : ByteArray := prog_14_method_101_code
def yX12_below : MethodName := ⟨RX12, "below", "(I)I"⟩
abbrev cX12_draws : ByteArray := prog_14_method_102_code
def yX12_draws : MethodName := ⟨RX12, "draws", "()V"⟩
abbrev cX12_drawn : ByteArray := prog_14_method_103_code
def yX12_drawn : MethodName := ⟨RX12, "drawn", "(IIII)I"⟩
abbrev cX12_alike : ByteArray := prog_14_method_104_code
def yX12_alike : MethodName := ⟨RX12, "alike", "(III)I"⟩
abbrev cX12_span : ByteArray := prog_14_method_105_code
def yX12_span : MethodName := ⟨RX12, "span", "(IIIZ)I"⟩
abbrev cX12_split : ByteArray := prog_14_method_106_code
def yX12_split : MethodName := ⟨RX12, "split", "(IIIZ)I"⟩
abbrev cX12_two : ByteArray := prog_14_method_107_code
def yX12_two : MethodName := ⟨RX12, "two", "(IIII)I"⟩
abbrev cX12_backs : ByteArray := prog_14_method_108_code
def yX12_backs : MethodName := ⟨RX12, "backs", "(IIIZ)I"⟩
abbrev cX12_bits : ByteArray := prog_14_method_109_code
def yX12_bits : MethodName := ⟨RX12, "bits", "(I)I"⟩
abbrev cX12_apartWithout : ByteArray := prog_14_method_110_code
def yX12_apartWithout : MethodName := ⟨RX12, "apartWithout", "(I)I"⟩
abbrev cX12_close : ByteArray := prog_14_method_111_code
def yX12_close : MethodName := ⟨RX12, "close", "(IZ)I"⟩
abbrev cX12_near : ByteArray := prog_14_method_112_code
def yX12_near : MethodName := ⟨RX12, "near", "(III)I"⟩
abbrev cX12_swaps : ByteArray := prog_14_method_113_code
def yX12_swaps : MethodName := ⟨RX12, "swaps", "(I)V"⟩
abbrev cX12_shift : ByteArray := prog_14_method_114_code
def yX12_shift : MethodName := ⟨RX12, "shift", "(IIZ)I"⟩
abbrev cX12_isPut : ByteArray := prog_14_method_115_code
def yX12_isPut : MethodName := ⟨RX12, "isPut", "(I)Z"⟩
abbrev cX12_thrift : ByteArray := prog_14_method_116_code
def yX12_thrift : MethodName := ⟨RX12, "thrift", "(I)I"⟩
abbrev cX12_count : ByteArray := prog_14_method_117_code
def yX12_count : MethodName := ⟨RX12, "count", "(I)I"⟩
abbrev cX12_image : ByteArray := prog_14_method_118_code
def yX12_image : MethodName := ⟨RX12, "image", "(I)Z"⟩
abbrev cX12_again : ByteArray := prog_14_method_119_code
def yX12_again : MethodName := ⟨RX12, "again", "(I)Z"⟩
def RJx145de : String := "java/io/Serializable"
def TJx145de : u_T := fun k => match k with
  | _ => ("", "", "", false)
def tyJx145de : Nat → FieldType := fun k => match k with
  | _ => .int
abbrev wsJx145de0 : List Cond := u_ws RJx145de TJx145de 0
theorem nmJx145de : ∀ a, a < 0 → ∀ b, b < 0 → a ≠ b → (TJx145de a).2.1 ≠ (TJx145de b).2.1 := by decide +kernel
theorem tyJx145de_ok : ∀ k, k < 0 → parseFieldDescriptor (TJx145de k).2.2.1 = some (tyJx145de k) := by decide +kernel
def RJx9f9b0 : String := "java/lang/CharSequence"
def TJx9f9b0 : u_T := fun k => match k with
  | _ => ("", "", "", false)
def tyJx9f9b0 : Nat → FieldType := fun k => match k with
  | _ => .int
abbrev wsJx9f9b00 : List Cond := u_ws RJx9f9b0 TJx9f9b0 0
theorem nmJx9f9b0 : ∀ a, a < 0 → ∀ b, b < 0 → a ≠ b → (TJx9f9b0 a).2.1 ≠ (TJx9f9b0 b).2.1 := by decide +kernel
theorem tyJx9f9b0_ok : ∀ k, k < 0 → parseFieldDescriptor (TJx9f9b0 k).2.2.1 = some (tyJx9f9b0 k) := by decide +kernel
def RJxb160c : String := "java/lang/Comparable"
def TJxb160c : u_T := fun k => match k with
  | _ => ("", "", "", false)
def tyJxb160c : Nat → FieldType := fun k => match k with
  | _ => .int
abbrev wsJxb160c0 : List Cond := u_ws RJxb160c TJxb160c 0
theorem nmJxb160c : ∀ a, a < 0 → ∀ b, b < 0 → a ≠ b → (TJxb160c a).2.1 ≠ (TJxb160c b).2.1 := by decide +kernel
theorem tyJxb160c_ok : ∀ k, k < 0 → parseFieldDescriptor (TJxb160c k).2.2.1 = some (tyJxb160c k) := by decide +kernel
def RJ6 : String := "java/lang/Integer"
def TJ6 : u_T := fun k => match k with
  | _ => ("", "", "", false)
def tyJ6 : Nat → FieldType := fun k => match k with
  | _ => .int
abbrev wsJ60 : List Cond := u_ws RJ6 TJ6 0
theorem nmJ6 : ∀ a, a < 0 → ∀ b, b < 0 → a ≠ b → (TJ6 a).2.1 ≠ (TJ6 b).2.1 := by decide +kernel
theorem tyJ6_ok : ∀ k, k < 0 → parseFieldDescriptor (TJ6 k).2.2.1 = some (tyJ6 k) := by decide +kernel
abbrev cJ6_bitCount_0f7a4 : ByteArray := prog_15_method_49_code
def yJ6_bitCount_0f7a4 : MethodName := ⟨RJ6, "bitCount", "(I)I"⟩
def RJ9 : String := "java/lang/Math"
def TJ9 : u_T := fun k => match k with
  | _ => ("", "", "", false)
def tyJ9 : Nat → FieldType := fun k => match k with
  | _ => .int
abbrev wsJ90 : List Cond := u_ws RJ9 TJ9 0
theorem nmJ9 : ∀ a, a < 0 → ∀ b, b < 0 → a ≠ b → (TJ9 a).2.1 ≠ (TJ9 b).2.1 := by decide +kernel
theorem tyJ9_ok : ∀ k, k < 0 → parseFieldDescriptor (TJ9 k).2.2.1 = some (tyJ9 k) := by decide +kernel
abbrev cJ9_abs_0f7a4 : ByteArray := prog_16_method_59_code
def yJ9_abs_0f7a4 : MethodName := ⟨RJ9, "abs", "(I)I"⟩
abbrev cJ9_max_7cf53 : ByteArray := prog_16_method_65_code
def yJ9_max_7cf53 : MethodName := ⟨RJ9, "max", "(II)I"⟩
abbrev cJ9_min_7cf53 : ByteArray := prog_16_method_69_code
def yJ9_min_7cf53 : MethodName := ⟨RJ9, "min", "(II)I"⟩
def RJ0 : String := "java/lang/String"
def TJ0 : u_T := fun k => match k with
  | _ => ("", "", "", false)
def tyJ0 : Nat → FieldType := fun k => match k with
  | _ => .int
abbrev wsJ00 : List Cond := u_ws RJ0 TJ0 0
theorem nmJ0 : ∀ a, a < 0 → ∀ b, b < 0 → a ≠ b → (TJ0 a).2.1 ≠ (TJ0 b).2.1 := by decide +kernel
theorem tyJ0_ok : ∀ k, k < 0 → parseFieldDescriptor (TJ0 k).2.2.1 = some (tyJ0 k) := by decide +kernel
abbrev cJ0_length_8abf5 : ByteArray := prog_17_method_54_code
def yJ0_length_8abf5 : MethodName := ⟨RJ0, "length", "()I"⟩
abbrev cJ0_charAt_5068e : ByteArray := prog_17_method_56_code
def yJ0_charAt_5068e : MethodName := ⟨RJ0, "charAt", "(I)C"⟩
abbrev cJ0_coder_7d493 : ByteArray := prog_17_method_152_code
def yJ0_coder_7d493 : MethodName := ⟨RJ0, "coder", "()B"⟩
abbrev cJ0_isLatin1_aae02 : ByteArray := prog_17_method_154_code
def yJ0_isLatin1_aae02 : MethodName := ⟨RJ0, "isLatin1", "()Z"⟩
abbrev cJ0_checkIndex_df160 : ByteArray := prog_17_method_155_code
def yJ0_checkIndex_df160 : MethodName := ⟨RJ0, "checkIndex", "(II)V"⟩
def RJ1 : String := "java/lang/StringLatin1"
def TJ1 : u_T := fun k => match k with
  | _ => ("", "", "", false)
def tyJ1 : Nat → FieldType := fun k => match k with
  | _ => .int
abbrev wsJ10 : List Cond := u_ws RJ1 TJ1 0
theorem nmJ1 : ∀ a, a < 0 → ∀ b, b < 0 → a ≠ b → (TJ1 a).2.1 ≠ (TJ1 b).2.1 := by decide +kernel
theorem tyJ1_ok : ∀ k, k < 0 → parseFieldDescriptor (TJ1 k).2.2.1 = some (tyJ1 k) := by decide +kernel
abbrev cJ1_charAt_3b067 : ByteArray := prog_18_method_2_code
def yJ1_charAt_3b067 : MethodName := ⟨RJ1, "charAt", "([BI)C"⟩
def RJ2 : String := "java/lang/StringUTF16"
def TJ2 : u_T := fun k => match k with
  | _ => ("", "", "", false)
def tyJ2 : Nat → FieldType := fun k => match k with
  | _ => .int
abbrev wsJ20 : List Cond := u_ws RJ2 TJ2 0
theorem nmJ2 : ∀ a, a < 0 → ∀ b, b < 0 → a ≠ b → (TJ2 a).2.1 ≠ (TJ2 b).2.1 := by decide +kernel
theorem tyJ2_ok : ∀ k, k < 0 → parseFieldDescriptor (TJ2 k).2.2.1 = some (tyJ2 k) := by decide +kernel
abbrev cJ2_getChar_3b067 : ByteArray := prog_19_method_5_code
def yJ2_getChar_3b067 : MethodName := ⟨RJ2, "getChar", "([BI)C"⟩
abbrev cJ2_length_9d52b : ByteArray := prog_19_method_6_code
def yJ2_length_9d52b : MethodName := ⟨RJ2, "length", "([B)I"⟩
abbrev cJ2_charAt_3b067 : ByteArray := prog_19_method_83_code
def yJ2_charAt_3b067 : MethodName := ⟨RJ2, "charAt", "([BI)C"⟩
abbrev cJ2_checkIndex_2214a : ByteArray := prog_19_method_91_code
def yJ2_checkIndex_2214a : MethodName := ⟨RJ2, "checkIndex", "(I[B)V"⟩
def RJ10 : String := "java/lang/System"
def TJ10 : u_T := fun k => match k with
  | _ => ("", "", "", false)
def tyJ10 : Nat → FieldType := fun k => match k with
  | _ => .int
abbrev wsJ100 : List Cond := u_ws RJ10 TJ10 0
theorem nmJ10 : ∀ a, a < 0 → ∀ b, b < 0 → a ≠ b → (TJ10 a).2.1 ≠ (TJ10 b).2.1 := by decide +kernel
theorem tyJ10_ok : ∀ k, k < 0 → parseFieldDescriptor (TJ10 k).2.2.1 = some (tyJ10 k) := by decide +kernel
def RJxfd54e : String := "java/lang/constant/Constable"
def TJxfd54e : u_T := fun k => match k with
  | _ => ("", "", "", false)
def tyJxfd54e : Nat → FieldType := fun k => match k with
  | _ => .int
abbrev wsJxfd54e0 : List Cond := u_ws RJxfd54e TJxfd54e 0
theorem nmJxfd54e : ∀ a, a < 0 → ∀ b, b < 0 → a ≠ b → (TJxfd54e a).2.1 ≠ (TJxfd54e b).2.1 := by decide +kernel
theorem tyJxfd54e_ok : ∀ k, k < 0 → parseFieldDescriptor (TJxfd54e k).2.2.1 = some (tyJxfd54e k) := by decide +kernel
def RJx3cf43 : String := "java/lang/constant/ConstantDesc"
def TJx3cf43 : u_T := fun k => match k with
  | _ => ("", "", "", false)
def tyJx3cf43 : Nat → FieldType := fun k => match k with
  | _ => .int
abbrev wsJx3cf430 : List Cond := u_ws RJx3cf43 TJx3cf43 0
theorem nmJx3cf43 : ∀ a, a < 0 → ∀ b, b < 0 → a ≠ b → (TJx3cf43 a).2.1 ≠ (TJx3cf43 b).2.1 := by decide +kernel
theorem tyJx3cf43_ok : ∀ k, k < 0 → parseFieldDescriptor (TJx3cf43 k).2.2.1 = some (tyJx3cf43 k) := by decide +kernel
def RJ7 : String := "java/util/Arrays"
def TJ7 : u_T := fun k => match k with
  | _ => ("", "", "", false)
def tyJ7 : Nat → FieldType := fun k => match k with
  | _ => .int
abbrev wsJ70 : List Cond := u_ws RJ7 TJ7 0
theorem nmJ7 : ∀ a, a < 0 → ∀ b, b < 0 → a ≠ b → (TJ7 a).2.1 ≠ (TJ7 b).2.1 := by decide +kernel
theorem tyJ7_ok : ∀ k, k < 0 → parseFieldDescriptor (TJ7 k).2.2.1 = some (tyJ7 k) := by decide +kernel
abbrev cJ7_fill_d0a16 : ByteArray := prog_21_method_101_code
def yJ7_fill_d0a16 : MethodName := ⟨RJ7, "fill", "([JJ)V"⟩
abbrev cJ7_fill_53178 : ByteArray := prog_21_method_103_code
def yJ7_fill_53178 : MethodName := ⟨RJ7, "fill", "([II)V"⟩
def RJ3 : String := "jdk/internal/util/Preconditions"
def TJ3 : u_T := fun k => match k with
  | _ => ("", "", "", false)
def tyJ3 : Nat → FieldType := fun k => match k with
  | _ => .int
abbrev wsJ30 : List Cond := u_ws RJ3 TJ3 0
theorem nmJ3 : ∀ a, a < 0 → ∀ b, b < 0 → a ≠ b → (TJ3 a).2.1 ≠ (TJ3 b).2.1 := by decide +kernel
theorem tyJ3_ok : ∀ k, k < 0 → parseFieldDescriptor (TJ3 k).2.2.1 = some (tyJ3 k) := by decide +kernel
abbrev cJ3_checkIndex_8e157 : ByteArray := prog_22_method_11_code
def yJ3_checkIndex_8e157 : MethodName := ⟨RJ3, "checkIndex", "(IILjava/util/function/BiFunction;)I"⟩
def RL : String := "GooseBorderLaw"
abbrev cL_law : ByteArray := code
def yL_law : MethodName := ⟨RL, "law", "([I)Z"⟩
abbrev vwCl : List vw_C := [(RX0, TX0, 1), (RX1, TX1, 4), (RX2, TX2, 6), (RX3, TX3, 4), (RX5, TX5, 4), (RX6, TX6, 12), (RX7, TX7, 6), (RX8, TX8, 11), (RX10, TX10, 9), (RX11, TX11, 10), (RX12, TX12, 44)]
end
section
/-! WHAT HOLDS OF EVERY STATE: classes, array classes, words of nest mates, statics that nobody writes -/
def gb_TY (cT : Nat → ClassId) : List (ClassId × FieldType) := [(cT 0, .int), (cT 1, .byte), (cT 2, .boolean), (cT 3, .long), (cT 4, .object "GooseBorder$Border"), (cT 5, .object "GooseBorder$Night"), (cT 6, .object "GooseBorder$Law"), (cT 7, .object "GooseBorder$Dawn"), (cT 8, .object "GooseBorder$Told"), (cT 9, .object "GooseBorder$Sheet")]
def gb_ge (b : Nat) : Nat → Prop := fun q => b ≤ q
def gb_fr (b n : Nat) : Nat → Prop := fun q => b ≤ q ∧ q < b + n
def gb_aC : List String := ["GooseBorder$Border", "GooseBorder$Night", "GooseBorder$Law", "GooseBorder$Dawn", "GooseBorder$Told", "GooseBorder$Sheet"]
def gb_f0 (k : Nat) : Value := .int (([0, 3, 12, 17, 18] : List Int32).getD k 0)
def gb_f1 (k : Nat) : Value := .int (([3, 5, 1, 2, 2, 2, 3, 2, 1, 0, 0, 1, 1, 2, 2, 1, 1, 2] : List Int32).getD k 0)
def gb_f2 (k : Nat) : Value := .int (([20, 9, 9, 0, 0, 4, 4, 60, 1, 99, 999, 0, 0, 0, 0, 7, 4, 0, 0, 0, 7, 4, 0, 0, 0, 7, 4, 0, 0, 0, 7, 7, 4, 0, 0, 7, 60, 0, 0, 0, 10, 0, 0, 0, 0, 0, 0, 0, 0, 0, 0, 0, 0, 0, 0, 4, 0, 0, 0, 0, 9, 0, 0, 0, 0, 999, 99, 0, 0, 0, 999, 99, 0, 0, 0, 99, 0, 0, 0, 0, 999, 0, 0, 0, 0, 4, 999, 0, 0, 0] : List Int32).getD k 0)
def gb_nW : List Cond := [(Cond.methodLinkNest "GooseBorder" (11 : Nat) ({ cls := "GooseBorder$Told", name := "<init>", desc := "()V" } : MethodName) "GooseBorder"), (Cond.fieldLinkNest "GooseBorder$Night" (3 : Nat) "GooseBorder" "FIRST_LINE" "[I" "GooseBorder"), (Cond.fieldLinkNest "GooseBorder$Law" (3 : Nat) "GooseBorder" "FIRST_LINE" "[I" "GooseBorder"), (Cond.fieldLinkNest "GooseBorder$Dawn" (3 : Nat) "GooseBorder" "FIRST_LINE" "[I" "GooseBorder"), (Cond.methodLinkNest "GooseBorder" (48 : Nat) ({ cls := "GooseBorder$Reader", name := "<init>", desc := "()V" } : MethodName) "GooseBorder"), (Cond.methodLinkNest "GooseBorder" (55 : Nat) ({ cls := "GooseBorder$Play", name := "<init>", desc := "()V" } : MethodName) "GooseBorder"), (Cond.methodLinkNest "GooseBorder" (62 : Nat) ({ cls := "GooseBorder$Sharing", name := "<init>", desc := "()V" } : MethodName) "GooseBorder"), (Cond.methodLinkNest "GooseBorder" (69 : Nat) ({ cls := "GooseBorder$Flocks", name := "<init>", desc := "()V" } : MethodName) "GooseBorder"), (Cond.declares ({ cls := "GooseBorder$Sheet", name := "clear", desc := "()V" } : MethodName)), (Cond.fieldLinkNest "GooseBorder$Reader" (77 : Nat) "GooseBorder" "FIRST_LINE" "[I" "GooseBorder"), (Cond.declares ({ cls := "GooseBorder$Sheet", name := "hasRoomFor", desc := "(I)Z" } : MethodName)), (Cond.fieldLinkNest "GooseBorder$Reader" (66 : Nat) "GooseBorder" "NUMBERS" "[I" "GooseBorder"), (Cond.fieldLinkNest "GooseBorder$Reader" (101 : Nat) "GooseBorder" "BOUNDS" "[I" "GooseBorder"), (Cond.declares ({ cls := "GooseBorder$Sheet", name := "addLine", desc := "(I[I)V" } : MethodName)), (Cond.fieldLinkNest "GooseBorder$Lines" (33 : Nat) "GooseBorder" "NUMBERS" "[I" "GooseBorder"), (Cond.declares ({ cls := "GooseBorder$Sheet", name := "clashes", desc := "()Z" } : MethodName)), (Cond.declares ({ cls := "GooseBorder$Lines", name := "size", desc := "()I" } : MethodName)), (Cond.declares ({ cls := "GooseBorder$Lines", name := "cell", desc := "(II)I" } : MethodName)), (Cond.declares ({ cls := "GooseBorder$Lines", name := "kind", desc := "(I)I" } : MethodName)), (Cond.declares ({ cls := "GooseBorder$Sheet", name := "copyFrom", desc := "(LGooseBorder$Sheet;)V" } : MethodName)), (Cond.castable "GooseBorder$Border" "GooseBorder$Sheet"), (Cond.castable "GooseBorder$Night" "GooseBorder$Sheet"), (Cond.castable "GooseBorder$Law" "GooseBorder$Sheet"), (Cond.castable "GooseBorder$Dawn" "GooseBorder$Sheet")]
theorem gb_nW_in : ∀ w ∈ gb_nW, w ∈ lw_tbl := List.forall_mem_cons.mpr ⟨List.mem_append_right _ (gb_tt1 (i := 32) rfl), List.forall_mem_cons.mpr ⟨List.mem_append_right _ (gb_tt1 (i := 66) rfl), List.forall_mem_cons.mpr ⟨List.mem_append_right _ (gb_tt1 (i := 92) rfl), List.forall_mem_cons.mpr ⟨List.mem_append_right _ (gb_tt1 (i := 105) rfl), List.forall_mem_cons.mpr ⟨List.mem_append_right _ (gb_tt1 (i := 163) rfl), List.forall_mem_cons.mpr ⟨List.mem_append_right _ (gb_tt1 (i := 191) rfl), List.forall_mem_cons.mpr ⟨List.mem_append_right _ (gb_tt2 (i := 5) rfl), List.forall_mem_cons.mpr ⟨List.mem_append_right _ (gb_tt2 (i := 50) rfl), List.forall_mem_cons.mpr ⟨List.mem_append_right _ (gb_tt2 (i := 130) rfl), List.forall_mem_cons.mpr ⟨List.mem_append_right _ (gb_tt2 (i := 152) rfl), List.forall_mem_cons.mpr ⟨List.mem_append_right _ (gb_tt2 (i := 227) rfl), List.forall_mem_cons.mpr ⟨List.mem_append_right _ (gb_tt3 (i := 16) rfl), List.forall_mem_cons.mpr ⟨List.mem_append_right _ (gb_tt3 (i := 26) rfl), List.forall_mem_cons.mpr ⟨List.mem_append_right _ (gb_tt3 (i := 29) rfl), List.forall_mem_cons.mpr ⟨List.mem_append_right _ (gb_tt3 (i := 42) rfl), List.forall_mem_cons.mpr ⟨List.mem_append_right _ (gb_tt3 (i := 46) rfl), List.forall_mem_cons.mpr ⟨List.mem_append_right _ (gb_tt3 (i := 56) rfl), List.forall_mem_cons.mpr ⟨List.mem_append_right _ (gb_tt3 (i := 64) rfl), List.forall_mem_cons.mpr ⟨List.mem_append_right _ (gb_tt3 (i := 207) rfl), List.forall_mem_cons.mpr ⟨List.mem_append_right _ (gb_tt4 (i := 154) rfl), List.forall_mem_cons.mpr ⟨List.mem_append_right _ (gb_tt8 (i := 54) rfl), List.forall_mem_cons.mpr ⟨List.mem_append_right _ (gb_tt8 (i := 55) rfl), List.forall_mem_cons.mpr ⟨List.mem_append_right _ (gb_tt8 (i := 56) rfl), List.forall_mem_cons.mpr ⟨List.mem_append_right _ (gb_tt8 (i := 57) rfl), fun _ h => absurd h List.not_mem_nil⟩⟩⟩⟩⟩⟩⟩⟩⟩⟩⟩⟩⟩⟩⟩⟩⟩⟩⟩⟩⟩⟩⟩⟩
theorem gb_nW_warm : ∀ w ∈ gb_nW, ∀ s U : State, s.WarmedH U.vm → va_Nw w s → va_Nw w U := List.forall_mem_cons.mpr ⟨fun _ _ hW h => va_Nw.warmM hW h, List.forall_mem_cons.mpr ⟨fun _ _ hW h => va_Nw.warmF hW h, List.forall_mem_cons.mpr ⟨fun _ _ hW h => va_Nw.warmF hW h, List.forall_mem_cons.mpr ⟨fun _ _ hW h => va_Nw.warmF hW h, List.forall_mem_cons.mpr ⟨fun _ _ hW h => va_Nw.warmM hW h, List.forall_mem_cons.mpr ⟨fun _ _ hW h => va_Nw.warmM hW h, List.forall_mem_cons.mpr ⟨fun _ _ hW h => va_Nw.warmM hW h, List.forall_mem_cons.mpr ⟨fun _ _ hW h => va_Nw.warmM hW h, List.forall_mem_cons.mpr ⟨fun _ _ hW h => va_Nw.warmD hW h, List.forall_mem_cons.mpr ⟨fun _ _ hW h => va_Nw.warmF hW h, List.forall_mem_cons.mpr ⟨fun _ _ hW h => va_Nw.warmD hW h, List.forall_mem_cons.mpr ⟨fun _ _ hW h => va_Nw.warmF hW h, List.forall_mem_cons.mpr ⟨fun _ _ hW h => va_Nw.warmF hW h, List.forall_mem_cons.mpr ⟨fun _ _ hW h => va_Nw.warmD hW h, List.forall_mem_cons.mpr ⟨fun _ _ hW h => va_Nw.warmF hW h, List.forall_mem_cons.mpr ⟨fun _ _ hW h => va_Nw.warmD hW h, List.forall_mem_cons.mpr ⟨fun _ _ hW h => va_Nw.warmD hW h, List.forall_mem_cons.mpr ⟨fun _ _ hW h => va_Nw.warmD hW h, List.forall_mem_cons.mpr ⟨fun _ _ hW h => va_Nw.warmD hW h, List.forall_mem_cons.mpr ⟨fun _ _ hW h => va_Nw.warmD hW h, List.forall_mem_cons.mpr ⟨fun _ _ hW h => va_Nw.warmC hW h, List.forall_mem_cons.mpr ⟨fun _ _ hW h => va_Nw.warmC hW h, List.forall_mem_cons.mpr ⟨fun _ _ hW h => va_Nw.warmC hW h, List.forall_mem_cons.mpr ⟨fun _ _ hW h => va_Nw.warmC hW h, fun _ h => absurd h List.not_mem_nil⟩⟩⟩⟩⟩⟩⟩⟩⟩⟩⟩⟩⟩⟩⟩⟩⟩⟩⟩⟩⟩⟩⟩⟩
theorem gb_nW_on : ∀ w ∈ gb_nW, w.onTables = true := List.forall_mem_cons.mpr ⟨rfl, List.forall_mem_cons.mpr ⟨rfl, List.forall_mem_cons.mpr ⟨rfl, List.forall_mem_cons.mpr ⟨rfl, List.forall_mem_cons.mpr ⟨rfl, List.forall_mem_cons.mpr ⟨rfl, List.forall_mem_cons.mpr ⟨rfl, List.forall_mem_cons.mpr ⟨rfl, List.forall_mem_cons.mpr ⟨rfl, List.forall_mem_cons.mpr ⟨rfl, List.forall_mem_cons.mpr ⟨rfl, List.forall_mem_cons.mpr ⟨rfl, List.forall_mem_cons.mpr ⟨rfl, List.forall_mem_cons.mpr ⟨rfl, List.forall_mem_cons.mpr ⟨rfl, List.forall_mem_cons.mpr ⟨rfl, List.forall_mem_cons.mpr ⟨rfl, List.forall_mem_cons.mpr ⟨rfl, List.forall_mem_cons.mpr ⟨rfl, List.forall_mem_cons.mpr ⟨rfl, List.forall_mem_cons.mpr ⟨rfl, List.forall_mem_cons.mpr ⟨rfl, List.forall_mem_cons.mpr ⟨rfl, List.forall_mem_cons.mpr ⟨rfl, fun _ h => absurd h List.not_mem_nil⟩⟩⟩⟩⟩⟩⟩⟩⟩⟩⟩⟩⟩⟩⟩⟩⟩⟩⟩⟩⟩⟩⟩⟩
theorem gb_n32 : (Cond.methodLinkNest "GooseBorder" (11 : Nat) ({ cls := "GooseBorder$Told", name := "<init>", desc := "()V" } : MethodName) "GooseBorder") ∈ gb_nW := List.mem_of_getElem? (i := 0) rfl
theorem gb_n66 : (Cond.fieldLinkNest "GooseBorder$Night" (3 : Nat) "GooseBorder" "FIRST_LINE" "[I" "GooseBorder") ∈ gb_nW := List.mem_of_getElem? (i := 1) rfl
theorem gb_n92 : (Cond.fieldLinkNest "GooseBorder$Law" (3 : Nat) "GooseBorder" "FIRST_LINE" "[I" "GooseBorder") ∈ gb_nW := List.mem_of_getElem? (i := 2) rfl
theorem gb_n105 : (Cond.fieldLinkNest "GooseBorder$Dawn" (3 : Nat) "GooseBorder" "FIRST_LINE" "[I" "GooseBorder") ∈ gb_nW := List.mem_of_getElem? (i := 3) rfl
theorem gb_n163 : (Cond.methodLinkNest "GooseBorder" (48 : Nat) ({ cls := "GooseBorder$Reader", name := "<init>", desc := "()V" } : MethodName) "GooseBorder") ∈ gb_nW := List.mem_of_getElem? (i := 4) rfl
theorem gb_n191 : (Cond.methodLinkNest "GooseBorder" (55 : Nat) ({ cls := "GooseBorder$Play", name := "<init>", desc := "()V" } : MethodName) "GooseBorder") ∈ gb_nW := List.mem_of_getElem? (i := 5) rfl
theorem gb_n245 : (Cond.methodLinkNest "GooseBorder" (62 : Nat) ({ cls := "GooseBorder$Sharing", name := "<init>", desc := "()V" } : MethodName) "GooseBorder") ∈ gb_nW := List.mem_of_getElem? (i := 6) rfl
theorem gb_n290 : (Cond.methodLinkNest "GooseBorder" (69 : Nat) ({ cls := "GooseBorder$Flocks", name := "<init>", desc := "()V" } : MethodName) "GooseBorder") ∈ gb_nW := List.mem_of_getElem? (i := 7) rfl
theorem gb_n370 : (Cond.declares ({ cls := "GooseBorder$Sheet", name := "clear", desc := "()V" } : MethodName)) ∈ gb_nW := List.mem_of_getElem? (i := 8) rfl
theorem gb_n392 : (Cond.fieldLinkNest "GooseBorder$Reader" (77 : Nat) "GooseBorder" "FIRST_LINE" "[I" "GooseBorder") ∈ gb_nW := List.mem_of_getElem? (i := 9) rfl
theorem gb_n467 : (Cond.declares ({ cls := "GooseBorder$Sheet", name := "hasRoomFor", desc := "(I)Z" } : MethodName)) ∈ gb_nW := List.mem_of_getElem? (i := 10) rfl
theorem gb_n496 : (Cond.fieldLinkNest "GooseBorder$Reader" (66 : Nat) "GooseBorder" "NUMBERS" "[I" "GooseBorder") ∈ gb_nW := List.mem_of_getElem? (i := 11) rfl
theorem gb_n506 : (Cond.fieldLinkNest "GooseBorder$Reader" (101 : Nat) "GooseBorder" "BOUNDS" "[I" "GooseBorder") ∈ gb_nW := List.mem_of_getElem? (i := 12) rfl
theorem gb_n509 : (Cond.declares ({ cls := "GooseBorder$Sheet", name := "addLine", desc := "(I[I)V" } : MethodName)) ∈ gb_nW := List.mem_of_getElem? (i := 13) rfl
theorem gb_n522 : (Cond.fieldLinkNest "GooseBorder$Lines" (33 : Nat) "GooseBorder" "NUMBERS" "[I" "GooseBorder") ∈ gb_nW := List.mem_of_getElem? (i := 14) rfl
theorem gb_n526 : (Cond.declares ({ cls := "GooseBorder$Sheet", name := "clashes", desc := "()Z" } : MethodName)) ∈ gb_nW := List.mem_of_getElem? (i := 15) rfl
theorem gb_n536 : (Cond.declares ({ cls := "GooseBorder$Lines", name := "size", desc := "()I" } : MethodName)) ∈ gb_nW := List.mem_of_getElem? (i := 16) rfl
theorem gb_n544 : (Cond.declares ({ cls := "GooseBorder$Lines", name := "cell", desc := "(II)I" } : MethodName)) ∈ gb_nW := List.mem_of_getElem? (i := 17) rfl
theorem gb_n687 : (Cond.declares ({ cls := "GooseBorder$Lines", name := "kind", desc := "(I)I" } : MethodName)) ∈ gb_nW := List.mem_of_getElem? (i := 18) rfl
theorem gb_n874 : (Cond.declares ({ cls := "GooseBorder$Sheet", name := "copyFrom", desc := "(LGooseBorder$Sheet;)V" } : MethodName)) ∈ gb_nW := List.mem_of_getElem? (i := 19) rfl
theorem gb_n1734 : (Cond.castable "GooseBorder$Border" "GooseBorder$Sheet") ∈ gb_nW := List.mem_of_getElem? (i := 20) rfl
theorem gb_n1735 : (Cond.castable "GooseBorder$Night" "GooseBorder$Sheet") ∈ gb_nW := List.mem_of_getElem? (i := 21) rfl
theorem gb_n1736 : (Cond.castable "GooseBorder$Law" "GooseBorder$Sheet") ∈ gb_nW := List.mem_of_getElem? (i := 22) rfl
theorem gb_n1737 : (Cond.castable "GooseBorder$Dawn" "GooseBorder$Sheet") ∈ gb_nW := List.mem_of_getElem? (i := 23) rfl
def gb_St (D : va_G) (cT : Nat → ClassId) (tt : Nat → Nat) (b1 : Nat) (U : State) : Prop :=
  va_K D vwCl (gb_TY cT) U ∧ (∀ w ∈ gb_nW, va_Nw w U) ∧ (∀ C ∈ gb_aC, va_AO C U) ∧
  (va_Z "GooseBorder" "FIRST_LINE" "[I" (.ref (tt 0)) (gb_ge b1) U U.heap ∧ va_T .int (tt 0) 5 gb_f0 (gb_ge b1) U U.heap) ∧
  (va_Z "GooseBorder" "NUMBERS" "[I" (.ref (tt 1)) (gb_ge b1) U U.heap ∧ va_T .int (tt 1) 18 gb_f1 (gb_ge b1) U U.heap) ∧
  (va_Z "GooseBorder" "BOUNDS" "[I" (.ref (tt 2)) (gb_ge b1) U U.heap ∧ va_T .int (tt 2) 90 gb_f2 (gb_ge b1) U U.heap)
section GBS
variable {D : va_G} {cT : Nat → ClassId} {tt : Nat → Nat} {b1 : Nat}
theorem gb_St.calling {U : State} (h : gb_St D cT tt b1 U) (g : JFrame) (mk : MethodId) (a : Array Value) : gb_St D cT tt b1 (U.calling g mk a) := by
  obtain ⟨h1, h2, h3, ⟨h4, h5⟩, ⟨h6, h7⟩, ⟨h8, h9⟩⟩ := h
  exact ⟨va_K.moved (u := U) (U := U.calling g mk a) (Vm.Alike.refl U.vm) h1, fun w hw => va_Nw.same (u := U) (U := U.calling g mk a) (gb_nW_on w hw) rfl (h2 w hw), fun C hC => va_AO.moved (U := U.calling g mk a) (Vm.Alike.refl U.vm) (h3 C hC), ⟨va_Z.moved (U := U.calling g mk a) (Vm.Alike.refl U.vm) h4, va_T.moved (U := U.calling g mk a) (Vm.Alike.refl U.vm) h5⟩, ⟨va_Z.moved (U := U.calling g mk a) (Vm.Alike.refl U.vm) h6, va_T.moved (U := U.calling g mk a) (Vm.Alike.refl U.vm) h7⟩, ⟨va_Z.moved (U := U.calling g mk a) (Vm.Alike.refl U.vm) h8, va_T.moved (U := U.calling g mk a) (Vm.Alike.refl U.vm) h9⟩⟩
theorem gb_St.warm {s U : State} {A : Nat → Prop} {H : Heap} {locs : List Loc} (h : gb_St D cT tt b1 s) (hW : s.WarmedH U.vm) (hS : va_S A s.heap H locs) (hA : ∀ q, A q → b1 ≤ q) (hU : U.heap = H) : gb_St D cT tt b1 U := by
  have hk : ∀ a : Nat, a < s.heap.size → ¬ gb_ge b1 a → U.heap[a]? = s.heap[a]? := fun a h1 h2 => by rw [hU]; exact hS.2.1 a h1 (fun z => h2 (hA a z))
  obtain ⟨h1, h2, h3, ⟨h4, h5⟩, ⟨h6, h7⟩, ⟨h8, h9⟩⟩ := h
  exact ⟨h1.moved hW.alike, fun w hw => gb_nW_warm w hw s U hW (h2 w hw), fun C hC => (h3 C hC).moved hW.alike, ⟨(h4.kept hk).moved hW.alike, (h5.kept hk).moved hW.alike⟩, ⟨(h6.kept hk).moved hW.alike, (h7.kept hk).moved hW.alike⟩, ⟨(h8.kept hk).moved hW.alike, (h9.kept hk).moved hW.alike⟩⟩
end GBS
/-- a method's start and its ends, over heaps -/
def gb_Pc (D : va_G) (cT : Nat → ClassId) (tt : Nat → Nat) (b1 : Nat) (av : List Value) (X : Heap → Prop) : Array Value → State → Prop := va_Pc av (fun U => gb_St D cT tt b1 U ∧ X U.heap)
def gb_Qi (Y : Int32 → Heap → Prop) (A : Nat → Prop) : Array Value → State → Outcome → State → Prop := va_Qi (fun r (u : Int32) => u = r) (fun u t => Y u t.heap) A
def gb_Ql (Y : Int64 → Heap → Prop) (A : Nat → Prop) : Array Value → State → Outcome → State → Prop := va_Ql (fun r (u : Int64) => u = r) (fun u t => Y u t.heap) A
def gb_Qv (Y : Heap → Prop) (A : Nat → Prop) : Array Value → State → Outcome → State → Prop := va_Qv (fun _ : Unit => True) (fun _ t => Y t.heap) A
def gb_Qq (Y : Option Nat → Heap → Prop) (A : Nat → Prop) : Array Value → State → Outcome → State → Prop := va_Qq (fun r (u : Option Nat) => u = r) (fun u t => Y u t.heap) A
theorem gb_rv {Y : Heap → Prop} {A : Nat → Prop} {a : Array Value} {s t : State} {H : Heap} {locs : List Loc} (ht : t.heap = H) (hY : Y H) (hS : va_S A s.heap H locs) : gb_Qv Y A a s (.returned none) t := ⟨⟨(), rfl, trivial, by show Y t.heap; rw [ht]; exact hY⟩, hS.F ht⟩
theorem gb_ri {Y : Int32 → Heap → Prop} {A : Nat → Prop} {a : Array Value} {s t : State} {H : Heap} {locs : List Loc} {v : Int32} (ht : t.heap = H) (hY : Y v H) (hS : va_S A s.heap H locs) : gb_Qi Y A a s (.returned (some (.int v))) t := ⟨⟨v, v, rfl, rfl, by show Y v t.heap; rw [ht]; exact hY⟩, hS.F ht⟩
theorem gb_rl {Y : Int64 → Heap → Prop} {A : Nat → Prop} {a : Array Value} {s t : State} {H : Heap} {locs : List Loc} {v : Int64} (ht : t.heap = H) (hY : Y v H) (hS : va_S A s.heap H locs) : gb_Ql Y A a s (.returned (some (.long v))) t := ⟨⟨v, v, rfl, rfl, by show Y v t.heap; rw [ht]; exact hY⟩, hS.F ht⟩
theorem gb_rq {Y : Option Nat → Heap → Prop} {A : Nat → Prop} {a : Array Value} {s t : State} {H : Heap} {locs : List Loc} (v : Option Nat) (ht : t.heap = H) (hY : Y v H) (hS : va_S A s.heap H locs) : gb_Qq Y A a s (.returned (some (va_rf v))) t := ⟨⟨v, v, rfl, rfl, by show Y v t.heap; rw [ht]; exact hY⟩, hS.F ht⟩
theorem gb_blind {D : va_G} {cT : Nat → ClassId} {tt : Nat → Nat} {b1 : Nat} {av : List Value} {X : Heap → Prop} : FrameBlind (gb_Pc D cT tt b1 av X) := fun a U g mk h => ⟨h.1, h.2.1.calling g mk a, h.2.2⟩
theorem gb_preV {D : va_G} {cT : Nat → ClassId} {tt : Nat → Nat} {b1 : Nat} {s : State} {H : Heap} {A : Nat → Prop} {locs : List Loc} {ws : va_W} {a ci q0 : Nat} {r : vw_C} {fs : List Value} {X : Heap → Prop} {As : List Value} (hSt : gb_St D cT tt b1 s) (hP : va_P D vwCl ws H) (hc : vwCl[ci]? = some r) (he : ws[q0]? = some (a, .inr (ci, fs))) (hS : va_S A s.heap H locs) (hA : ∀ q, A q → b1 ≤ q) (hX : X H) : PreV s H r.1 a (gb_Pc D cT tt b1 (.ref a :: As) X) As :=
  ⟨gb_blind, va_recv hSt.1 hP hc he, fun U hU hW => ⟨rfl, hSt.warm hW hS hA hU, by rw [hU]; exact hX⟩⟩
theorem gb_preS {D : va_G} {cT : Nat → ClassId} {tt : Nat → Nat} {b1 : Nat} {s : State} {H : Heap} {A : Nat → Prop} {locs : List Loc} {X : Heap → Prop} {As : List Value} (hSt : gb_St D cT tt b1 s) (hS : va_S A s.heap H locs) (hA : ∀ q, A q → b1 ≤ q) (hX : X H) : PreS s H (gb_Pc D cT tt b1 As X) As :=
  ⟨gb_blind, fun U hU hW => ⟨rfl, hSt.warm hW hS hA hU, by rw [hU]; exact hX⟩⟩
theorem gb_gV {own C : String} {idx : Nat} {y : MethodName} {c0 : Cond} (h1 : Cond.methodLink own idx y ∈ gb_wA) (h2 : Cond.instanceMethod y ∈ gb_wA) (h3 : Cond.selects C y y ∈ gb_wA) (h4 : Cond.initialized C ∈ gb_wA) (h5 : c0 ∈ gb_wA) : GoodIn gb_wA (wsV own idx C y (c0 :: gb_wA)) := by
  have key : ∀ w ∈ wsV own idx C y (c0 :: gb_wA), w ∈ gb_wA := by
    intro w h
    simp only [wsV, List.cons_append, List.nil_append, List.mem_cons] at h
    rcases h with h | h | h | h | h | h
    · rw [h]; exact h1
    · rw [h]; exact h2
    · rw [h]; exact h3
    · rw [h]; exact h4
    · rw [h]; exact h5
    · exact h
  exact fun w h => gb_good (fun _ h => h) w (key w h)
theorem gb_gS {own : String} {idx : Nat} {y : MethodName} {c0 : Cond} (h1 : Cond.methodLink own idx y ∈ gb_wA) (h2 : Cond.static y ∈ gb_wA) (h4 : Cond.initialized y.cls ∈ gb_wA) (h5 : c0 ∈ gb_wA) : GoodIn gb_wA (va_wsS own idx y (c0 :: gb_wA)) := by
  have key : ∀ w ∈ va_wsS own idx y (c0 :: gb_wA), w ∈ gb_wA := by
    intro w h
    simp only [va_wsS, List.cons_append, List.nil_append, List.mem_cons] at h
    rcases h with h | h | h | h | h
    · rw [h]; exact h1
    · rw [h]; exact h2
    · rw [h]; exact h4
    · rw [h]; exact h5
    · exact h
  exact fun w h => gb_good (fun _ h => h) w (key w h)
theorem gb_gI {c0 : Cond} (h5 : c0 ∈ gb_wA) : GoodIn gb_wA (c0 :: gb_wA) := gb_goodc (fun _ h => h) h5
theorem gb_in {i : Int32} {n : Nat} (h : decide (¬ (i < 0 ∨ n ≤ i.toNatClampNeg)) = true) : vp_in i n := by
  unfold vp_in
  exact of_decide_eq_true h
/-- a block is cut at a place, and glued again -/
theorem gb_drop {D : va_G} {cl : List vw_C} {b : Nat} {cs suf : List va_E} {H : Heap} (h : va_P D cl (gb_wl b cs) H) (k : Nat) (hs : cs.drop k = suf) (hk : (cs.take k).length = k) : va_P D cl (gb_wl (b + k) suf) H := by
  rw [← List.take_append_drop k cs, gb_app, hk] at h
  rw [← hs]
  intro j q hj
  refine h ((gb_wl b (cs.take k)).length + j) q ?_
  rw [List.getElem?_append_right (by omega), show (gb_wl b (cs.take k)).length + j - (gb_wl b (cs.take k)).length = j by omega]
  exact hj
theorem gb_glue {D : va_G} {cl : List vw_C} {b : Nat} {cs pre post : List va_E} {H H1 : Heap} (h : va_P D cl (gb_wl b cs) H) (k : Nat) (hp : cs.take k = pre) (hk : pre.length = k) (hkeep : ∀ q, q < H.size → ¬ gb_ge (b + k) q → H1[q]? = H[q]?) (h1 : va_P D cl (gb_wl (b + k) post) H1) : va_P D cl (gb_wl b (pre ++ post)) H1 := by
  rw [gb_app, hk]
  refine va_P.app (fun j q hj => ?_) h1
  have h9 := gb_of hj
  have hlt : j < pre.length := (List.getElem?_eq_some_iff.mp h9.2).1
  have hc : cs[j]? = some q.2 := by
    rw [← hp] at h9
    rw [← h9.2, List.getElem?_take, if_pos (by omega)]
  have hq : (gb_wl b cs)[j]? = some q := by
    rw [gb_get, hc]
    show some (b + j, q.2) = some q
    rw [← h9.1]
  refine (h j q hq).kept (hkeep _ ((h j q hq).lt) (fun z => ?_))
  have : b + k ≤ q.1 := z
  omega
section GBC
variable {p : Program} {l : Launch} {e : Env} {R : Room} {s : State} {m : MethodId} {args : Array Value} {below : List Frame} {meth : Method} {c : Code} {H : Heap} {locs : List Loc} {cells slots : Nat} {Q : State → Prop}
variable {pc : Nat} {ls : Array Slot} {rest st0 : List Value} {a : Array Value} {A0 A1 : Nat → Prop} {H0 : Heap} {mc ms : Nat} {free : Addr → Prop}
theorem gb_calli {Y : Int32 → Heap → Prop} (hr : va_Run p l e R s m args below meth c H locs cells slots mc ms (F0 m pc ls st0) rest (gb_Qi Y A1 a) free) (hS : va_S A0 H0 H locs) (hA : ∀ q, A1 q → A0 q) (hf : ∀ q, free q → A0 q)
    (kk : ∀ (r : Int32) (H1 : Heap) (locs1 : List Loc), Y r H1 → (∀ q : Nat, q < H.size → ¬ A1 q → H1[q]? = H[q]?) → va_S A0 H0 H1 locs1 → W p l e R s m args below meth c H1 locs1 (cells + mc) (slots + ms) Q (F0 m (pc + 3) ls (.int r :: rest))) : W p l e R s m args below meth c H locs cells slots Q (F0 m pc ls st0) :=
  va_calli hr hS (fun q _ h => hA q h) hf (fun r u t H1 locs1 ht _ hw hB _ hk1 hS1 => kk r H1 locs1 (by have hw2 : u = r := hw; subst hw2; rw [← ht]; exact hB) hk1 hS1)
theorem gb_calll {Y : Int64 → Heap → Prop} (hr : va_Run p l e R s m args below meth c H locs cells slots mc ms (F0 m pc ls st0) rest (gb_Ql Y A1 a) free) (hS : va_S A0 H0 H locs) (hA : ∀ q, A1 q → A0 q) (hf : ∀ q, free q → A0 q)
    (kk : ∀ (r : Int64) (H1 : Heap) (locs1 : List Loc), Y r H1 → (∀ q : Nat, q < H.size → ¬ A1 q → H1[q]? = H[q]?) → va_S A0 H0 H1 locs1 → W p l e R s m args below meth c H1 locs1 (cells + mc) (slots + ms) Q (F0 m (pc + 3) ls (.long r :: rest))) : W p l e R s m args below meth c H locs cells slots Q (F0 m pc ls st0) :=
  va_calll hr hS (fun q _ h => hA q h) hf (fun r u t H1 locs1 ht _ hw hB _ hk1 hS1 => kk r H1 locs1 (by have hw2 : u = r := hw; subst hw2; rw [← ht]; exact hB) hk1 hS1)
theorem gb_callv {Y : Heap → Prop} (hr : va_Run p l e R s m args below meth c H locs cells slots mc ms (F0 m pc ls st0) rest (gb_Qv Y A1 a) free) (hS : va_S A0 H0 H locs) (hA : ∀ q, A1 q → A0 q) (hf : ∀ q, free q → A0 q)
    (kk : ∀ (H1 : Heap) (locs1 : List Loc), Y H1 → (∀ q : Nat, q < H.size → ¬ A1 q → H1[q]? = H[q]?) → va_S A0 H0 H1 locs1 → W p l e R s m args below meth c H1 locs1 (cells + mc) (slots + ms) Q (F0 m (pc + 3) ls rest)) : W p l e R s m args below meth c H locs cells slots Q (F0 m pc ls st0) :=
  va_callv hr hS (fun q _ h => hA q h) hf (fun u t H1 locs1 ht _ hw hB _ hk1 hS1 => kk H1 locs1 (by rw [← ht]; exact hB) hk1 hS1)
theorem gb_callq {Y : Option Nat → Heap → Prop} (hr : va_Run p l e R s m args below meth c H locs cells slots mc ms (F0 m pc ls st0) rest (gb_Qq Y A1 a) free) (hS : va_S A0 H0 H locs) (hA : ∀ q, A1 q → A0 q) (hf : ∀ q, free q → A0 q)
    (kk : ∀ (r : Option Nat) (H1 : Heap) (locs1 : List Loc), Y r H1 → (∀ q : Nat, q < H.size → ¬ A1 q → H1[q]? = H[q]?) → va_S A0 H0 H1 locs1 → W p l e R s m args below meth c H1 locs1 (cells + mc) (slots + ms) Q (F0 m (pc + 3) ls (va_rf r :: rest))) : W p l e R s m args below meth c H locs cells slots Q (F0 m pc ls st0) :=
  va_callq hr hS (fun q _ h => hA q h) hf (fun r u t H1 locs1 ht _ hw hB _ hk1 hS1 => kk r H1 locs1 (by have hw2 : u = r := hw; subst hw2; rw [← ht]; exact hB) hk1 hS1)
end GBC
section GBL
variable {p : Program} {l : Launch} {e : Env} {R : Room} {s : State} {m : MethodId} {args : Array Value} {below : List Frame} {meth : Method} {c : Code} {H : Heap} {locs : List Loc} {cells slots : Nat} {Q : State → Prop}
variable {cc : ByteArray} {pc : Nat} {ls : Array Slot} {rest : List Value} {D : va_G} {cl : List vw_C} {tys : List (ClassId × FieldType)} {ws : va_W} {a : Nat}
theorem gb_iald (hexec : p.tables.exec = Jvm.exec) (hb : c.code = cc) (hK : va_K D cl tys s) (hP : va_P D cl ws H) (q0 t0 : Nat) {cA : ClassId} {n : Nat} {f : Nat → Int32} (ha : ws[q0]? = some (a, .inl (cA, n, .inl f))) (ht : tys[t0]? = some (cA, .int)) {i v : Int32} (hin : vp_in i n) (hv : f i.toNatClampNeg = v) (hdg : decode cc pc = .ok (.iaload, 1))
    (kk : W p l e R s m args below meth c H locs cells slots Q (F0 m (pc + 1) ls (.int v :: rest))) : W p l e R s m args below meth c H locs cells slots Q (F0 m pc ls (.int i :: .ref a :: rest)) := by
  subst hv
  exact va_iald hexec hb hK hP q0 t0 ha ht hin hdg kk
theorem gb_zald (hexec : p.tables.exec = Jvm.exec) (hb : c.code = cc) (hK : va_K D cl tys s) (hP : va_P D cl ws H) (q0 t0 : Nat) {cA : ClassId} {n : Nat} {f : Nat → Int32} (ha : ws[q0]? = some (a, .inl (cA, n, .inl f))) (ht : tys[t0]? = some (cA, .boolean)) {i v : Int32} (hin : vp_in i n) (hv : f i.toNatClampNeg = v) (hdg : decode cc pc = .ok (.baload, 1))
    (kk : W p l e R s m args below meth c H locs cells slots Q (F0 m (pc + 1) ls (.int v :: rest))) : W p l e R s m args below meth c H locs cells slots Q (F0 m pc ls (.int i :: .ref a :: rest)) := by
  subst hv
  exact va_zald hexec hb hK hP q0 t0 ha ht hin hdg kk
theorem gb_aald (hexec : p.tables.exec = Jvm.exec) (hb : c.code = cc) (hK : va_K D cl tys s) (hP : va_P D cl ws H) (q0 t0 : Nat) {cA : ClassId} {C : String} {n : Nat} {f : Nat → Option Nat} (ha : ws[q0]? = some (a, .inl (cA, n, .inr (.inr (.inr (.inr f)))))) (ht : tys[t0]? = some (cA, .object C)) {i : Int32} {v : Value} (hin : vp_in i n) (hv : va_rf (f i.toNatClampNeg) = v) (hdg : decode cc pc = .ok (.aaload, 1))
    (kk : W p l e R s m args below meth c H locs cells slots Q (F0 m (pc + 1) ls (v :: rest))) : W p l e R s m args below meth c H locs cells slots Q (F0 m pc ls (.int i :: .ref a :: rest)) := by
  subst hv
  exact va_aldq hexec hb hK hP q0 t0 ha ht hin hdg kk
end GBL
end
section
theorem dX0_init_0 : decode cX0_init 0 = .ok (.aload_n 0, 1) := by decide +kernel
theorem dX0_init_1 : decode cX0_init 1 = .ok (.bipush 58, 2) := by decide +kernel
theorem dX0_init_3 : decode cX0_init 3 = .ok (.invokespecial 5, 3) := by decide +kernel
theorem dX9_init_0 : decode cX9_init 0 = .ok (.aload_n 0, 1) := by decide +kernel
theorem dX9_init_1 : decode cX9_init 1 = .ok (.invokespecial 1, 3) := by decide +kernel
theorem w_45 : (Cond.methodLink "GooseBorder$Sheet" (1 : Nat) ({ cls := "java/lang/Object", name := "<init>", desc := "()V" } : MethodName)) ∈ gb_wA := gb_t1 45 rfl rfl
theorem w_28 : (Cond.instanceMethod ({ cls := "java/lang/Object", name := "<init>", desc := "()V" } : MethodName)) ∈ gb_wA := gb_t1 28 rfl rfl
theorem w_29 : (Cond.code ({ cls := "java/lang/Object", name := "<init>", desc := "()V" } : MethodName) object_method_1_code (1 : Nat) (Option.none : Option FieldType)) ∈ gb_wA := gb_t1 29 rfl rfl
theorem dX9_init_4 : decode cX9_init 4 = .ok (.aload_n 0, 1) := by decide +kernel
theorem dX9_init_5 : decode cX9_init 5 = .ok (.iconst 1, 1) := by decide +kernel
theorem dX9_init_6 : decode cX9_init 6 = .ok (.iload_n 1, 1) := by decide +kernel
theorem dX9_init_7 : decode cX9_init 7 = .ok (.invokestatic 7, 3) := by decide +kernel
theorem w_46 : (Cond.methodLink "GooseBorder$Sheet" (7 : Nat) ({ cls := "java/lang/Math", name := "max", desc := "(II)I" } : MethodName)) ∈ gb_wA := gb_t1 46 rfl rfl
theorem w_47 : (Cond.static ({ cls := "java/lang/Math", name := "max", desc := "(II)I" } : MethodName)) ∈ gb_wA := gb_t1 47 rfl rfl
theorem w_5 : (Cond.initialized "java/lang/Math") ∈ gb_wA := gb_t1 5 rfl rfl
theorem w_48 : (Cond.code ({ cls := "java/lang/Math", name := "max", desc := "(II)I" } : MethodName) prog_16_method_65_code (2 : Nat) (Option.some FieldType.int)) ∈ gb_wA := gb_t1 48 rfl rfl
theorem dX9_init_10 : decode cX9_init 10 = .ok (.newarray .int, 2) := by decide +kernel
theorem w_59 : (Cond.arrayClass FieldType.int) ∈ gb_wA := gb_t1 59 rfl rfl
theorem dX9_init_12 : decode cX9_init 12 = .ok (.putfield 13, 3) := by decide +kernel
theorem w_56 : (Cond.laysFinal "GooseBorder$Border" "GooseBorder$Sheet" "cells" "[I") ∈ gb_wA := gb_t1 56 rfl rfl
theorem i_X0 : ∀ w ∈ u_ws RX0 TX0 1, w ∈ gb_wA := (List.forall_mem_cons.mpr ⟨w_56, fun _ h => absurd h List.not_mem_nil⟩ : ∀ w ∈ ([Cond.laysFinal "GooseBorder$Border" "GooseBorder$Sheet" "cells" "[I"] : List Cond), w ∈ gb_wA)
theorem w_51 : (Cond.fieldLink "GooseBorder$Sheet" (13 : Nat) "GooseBorder$Sheet" "cells" "[I") ∈ gb_wA := gb_t1 51 rfl rfl
theorem dX9_init_15 : decode cX9_init 15 = .ok (.return_, 1) := by decide +kernel
set_option maxHeartbeats 4000000 in
set_option maxRecDepth 100000 in
theorem k_X9_init (l : Launch) (D : va_G) (cT : Nat → ClassId) (tt : Nat → Nat) (b1 b : Nat) (hb1 : b1 ≤ b) : Met l yX9_init (.code yX9_init cX9_init 2 none :: gb_wA) ({ frames := 1, cells := 1, slots := 58, locals := 14 }) (gb_Pc D cT tt b1 [.ref (b + 0), .int 58] (fun h => va_P D vwCl (gb_wl b [.inr (0, [.null])]) h ∧ Array.size h = b + 1)) (gb_Qv (fun h => va_P D vwCl (gb_wl b [.inr (0, [.ref (b + 1)]), .inl (cT 0, 58, .inl (fun _ => 0))]) h ∧ Array.size h = b + 2) (gb_ge b)) 1 58 (gb_ge b) := by
  refine Met.ofW (cc := cX9_init) (maxL := 2) (ret := none) (by decide) rfl ?_
  intro p e s m args below meth c s₁ B hml hv
  obtain ⟨rfl, hSt, hP, hz⟩ := hv
  have hx := B.exec
  have hb := B.bytes
  have hr := B.returns
  have hts := atoms_spec (ws := .code yX9_init cX9_init 2 none :: gb_wA) B.pre
  have hq : ∀ w ∈ gb_wA, w.before _ s = true := fun w h => hts w (List.mem_cons_of_mem _ h)
  have hown : s.vm.findClass RX9 = some m.cls := findClass_of_methodNamed B.named
  have hlocks := B.notSynchronized
  have hin : meth.name = "<init>" := (name_of_methodNamed B.named B.method).1
  have hK := hSt.1
  have hS : va_S (gb_ge b) s.heap s.heap [] := va_S.rf
  have hl := lv_entry ([.ref (b + 0), .int 58]) (n := 2) (Nat.le_of_ble_eq_true rfl)
  rw [lg_entry_eq]
  generalize (lg_sl ([.ref (b + 0), .int 58]) ++ List.replicate (2 - (lg_sl ([.ref (b + 0), .int 58])).length) Slot.unset).toArray = ls at hl ⊢
  have hl : lv_has ls 2 [(0, .ref (b + 0)), (1, .int 58)] := hl
  refine lv_aload_n hx hb dX9_init_0 rfl (lv_at hl 0 rfl) ?_
  refine W.objInit hx hb hown (hq _ w_45) (hq _ w_28) (hq _ w_29) rfl (by rw [hml]; exact hl.1) rfl dX9_init_1 (Nat.le_of_ble_eq_true rfl) (Nat.le_of_ble_eq_true rfl) ?_
  refine W.eq (g2 := F0 m 4 ls []) rfl ?_
  refine lv_aload_n hx hb dX9_init_4 rfl (lv_at hl 0 rfl) ?_
  refine lv_iconst (v := 1) hx hb dX9_init_5 (by decide) ?_
  refine lv_iload_n hx hb dX9_init_6 rfl (lv_at hl 1 rfl) ?_
  refine va_mmax hx hb (hml.trans hl.1.symm) hown (hq _ w_46) (hq _ w_47) (hq _ w_5) (hq _ w_48) (Nat.le_of_ble_eq_true rfl) (Nat.le_of_ble_eq_true rfl) (Nat.le_of_ble_eq_true rfl) (Nat.le_of_ble_eq_true rfl) dX9_init_7 ?_
  refine W.eq (g2 := F0 m 10 ls [.int 58, .ref (b + 0)]) (congrArg (fun v => F0 m 10 ls (Value.int v :: [.ref (b + 0)])) (by decide)) ?_
  refine gb_newa (atype := .int) (a0 := (58, .inl (fun _ => 0))) hx hb (hq _ w_59) (ty := .int) rfl hK hP hS 1 hz rfl 0 rfl (fun h => h) (fun _ => rfl) (by decide) (by decide) (Nat.le_of_ble_eq_true rfl) (Nat.le_of_ble_eq_true rfl) (Nat.le_of_ble_eq_true rfl) dX9_init_10 (fun H hP hz hS => ?_)
  have hP : va_P D vwCl (gb_wl b [.inr (0, [.null]), .inl (cT 0, 58, .inl (fun _ => 0))]) H := hP
  refine W.widen (k := 1) (n := 58) (Nat.le_of_ble_eq_true rfl) (Nat.le_of_ble_eq_true rfl) ?_
  refine gb_putF (ci := 0) (v := (.ref (b + 1))) (ty := .array .int) (C := RX0) (T := TX0) (N := 1) hx hb hq i_X0 tyX0 tyX0_ok nmX0 hown hK hP (fun k _ => Nat.le_add_right b k) hS hz 0 rfl rfl 0 (by decide) (hq _ w_51) (fun _ h9 => h9) rfl hin rfl (by decide +kernel) rfl rfl (Nat.le_of_ble_eq_true rfl) dX9_init_12 (fun H locs hP hz hS => ?_)
  have hP : va_P D vwCl (gb_wl b [.inr (0, [.ref (b + 1)]), .inl (cT 0, 58, .inl (fun _ => 0))]) H := hP
  exact W.vret hx hb hr (fun t ht hW => gb_rv ht ⟨hP, hz⟩ hS) hS.2.2 dX9_init_15
theorem w_44 : (Cond.code ({ cls := "GooseBorder$Sheet", name := "<init>", desc := "(I)V" } : MethodName) prog_11_method_1_code (2 : Nat) (Option.none : Option FieldType)) ∈ gb_wA := gb_t1 44 rfl rfl
theorem w_3 : (Cond.initialized "GooseBorder$Sheet") ∈ gb_wA := gb_t1 3 rfl rfl
theorem w_42 : (Cond.methodLink "GooseBorder$Border" (5 : Nat) ({ cls := "GooseBorder$Sheet", name := "<init>", desc := "(I)V" } : MethodName)) ∈ gb_wA := gb_t1 42 rfl rfl
theorem w_43 : (Cond.instanceMethod ({ cls := "GooseBorder$Sheet", name := "<init>", desc := "(I)V" } : MethodName)) ∈ gb_wA := gb_t1 43 rfl rfl
theorem dX0_init_6 : decode cX0_init 6 = .ok (.aload_n 0, 1) := by decide +kernel
theorem dX0_init_7 : decode cX0_init 7 = .ok (.getfield 11, 3) := by decide +kernel
theorem w_50 : (Cond.sameField "GooseBorder$Border" "GooseBorder$Sheet" "cells" "[I") ∈ gb_wA := gb_t1 50 rfl rfl
theorem w_49 : (Cond.fieldLink "GooseBorder$Border" (11 : Nat) "GooseBorder$Border" "cells" "[I") ∈ gb_wA := gb_t1 49 rfl rfl
theorem dX0_init_10 : decode cX0_init 10 = .ok (.iconst 2, 1) := by decide +kernel
theorem dX0_init_11 : decode cX0_init 11 = .ok (.iconst (-1), 1) := by decide +kernel
theorem dX0_init_12 : decode cX0_init 12 = .ok (.iastore, 1) := by decide +kernel
theorem dX0_init_13 : decode cX0_init 13 = .ok (.return_, 1) := by decide +kernel
set_option maxHeartbeats 4000000 in
set_option maxRecDepth 100000 in
theorem k_X0_init (l : Launch) (D : va_G) (cT : Nat → ClassId) (tt : Nat → Nat) (b1 b : Nat) (hb1 : b1 ≤ b) : Met l yX0_init (.code yX0_init cX0_init 1 none :: gb_wA) ({ frames := 2, cells := 1, slots := 58, locals := 35 }) (gb_Pc D cT tt b1 [.ref (b + 0)] (fun h => va_P D vwCl (gb_wl b [.inr (0, [.null])]) h ∧ Array.size h = b + 1)) (gb_Qv (fun h => va_P D vwCl (gb_wl b [.inr (0, [.ref (b + 1)]), .inl (cT 0, 58, .inl (upd (fun _ => 0) 2 (-1)))]) h ∧ Array.size h = b + 2) (gb_ge b)) 1 58 (gb_ge b) := by
  refine Met.ofW (cc := cX0_init) (maxL := 1) (ret := none) (by decide) rfl ?_
  intro p e s m args below meth c s₁ B hml hv
  obtain ⟨rfl, hSt, hP, hz⟩ := hv
  have hx := B.exec
  have hb := B.bytes
  have hr := B.returns
  have hts := atoms_spec (ws := .code yX0_init cX0_init 1 none :: gb_wA) B.pre
  have hq : ∀ w ∈ gb_wA, w.before _ s = true := fun w h => hts w (List.mem_cons_of_mem _ h)
  have hown : s.vm.findClass RX0 = some m.cls := findClass_of_methodNamed B.named
  have hlocks := B.notSynchronized
  have hin : meth.name = "<init>" := (name_of_methodNamed B.named B.method).1
  have hK := hSt.1
  have hS : va_S (gb_ge b) s.heap s.heap [] := va_S.rf
  have hl := lv_entry ([.ref (b + 0)]) (n := 1) (Nat.le_of_ble_eq_true rfl)
  rw [lg_entry_eq]
  generalize (lg_sl ([.ref (b + 0)]) ++ List.replicate (1 - (lg_sl ([.ref (b + 0)])).length) Slot.unset).toArray = ls at hl ⊢
  have hl : lv_has ls 1 [(0, .ref (b + 0))] := hl
  refine lv_aload_n hx hb dX0_init_0 rfl (lv_at hl 0 rfl) ?_
  refine lv_bipush (v := 58) hx hb dX0_init_1 (by decide) ?_
  have hPc := gb_drop hP 0 (suf := [.inr (0, [.null])]) rfl rfl
  refine gb_callv (va_runI (As := [.int 58]) (rest := []) ⟨hx, hb, hml, hown, hq⟩ (k_X9_init l D cT tt b1 (b + 0) (Nat.le_trans hb1 (Nat.le_add_right b 0))) (cwI 1 hq (gb_gI w_44) rfl rfl rfl (hq _ w_3) (hq _ w_42) (hq _ w_43) rfl (by decide +kernel) ⟨Nat.le_of_ble_eq_true rfl, Nat.le_of_ble_eq_true rfl⟩) (gb_preS hSt hS (fun q h => Nat.le_trans hb1 h) (show va_P D vwCl (gb_wl (b + 0) [.inr (0, [.null])]) s.heap ∧ Array.size s.heap = b + 0 + 1 from ⟨hPc, hz⟩)) rfl rfl hl.1 rfl (lv_room (Nat.le_of_ble_eq_true rfl)) dX0_init_3 ⟨Nat.le_of_ble_eq_true rfl, Nat.le_of_ble_eq_true rfl⟩) hS (fun q h => Nat.le_trans (Nat.le_add_right b 0) h) (fun q h => Nat.le_trans (Nat.le_add_right b 0) h) (fun H locs hY hk hS => ?_)
  have hP := gb_glue hP 0 (pre := []) rfl rfl hk hY.1
  have hP : va_P D vwCl (gb_wl b [.inr (0, [.ref (b + 1)]), .inl (cT 0, 58, .inl (fun _ => 0))]) H := hP
  have hz : Array.size H = b + 2 := hY.2
  refine W.widen (k := 1) (n := 58) (Nat.le_of_ble_eq_true rfl) (Nat.le_of_ble_eq_true rfl) ?_
  refine lv_aload_n hx hb dX0_init_6 rfl (lv_at hl 0 rfl) ?_
  refine va_get (ci := 0) (v := (.ref (b + 1))) (C := RX0) (T := TX0) (N := 1) hx hb hq i_X0 hown hK hP 0 (gb_at b rfl) rfl 0 (by decide) (hq _ w_49) (fun x9 h9 => u_same (hq _ w_50) x9 h9) rfl dX0_init_7 ?_
  refine lv_iconst (v := 2) hx hb dX0_init_10 (by decide) ?_
  refine lv_iconst (v := (-1)) hx hb dX0_init_11 (by decide) ?_
  refine gb_iast (x := (-1)) hx hb hK hP (fun k _ => Nat.le_add_right b k) hS hz 1 0 rfl rfl (gb_in rfl) dX0_init_12 (fun H locs hP hz hS => ?_)
  have hP : va_P D vwCl (gb_wl b [.inr (0, [.ref (b + 1)]), .inl (cT 0, 58, .inl (upd (fun _ => 0) 2 (-1)))]) H := hP
  exact W.vret hx hb hr (fun t ht hW => gb_rv ht ⟨hP, hz⟩ hS) hS.2.2 dX0_init_13
theorem dX5_init_0 : decode cX5_init 0 = .ok (.aload_n 0, 1) := by decide +kernel
theorem dX5_init_1 : decode cX5_init 1 = .ok (.bipush 24, 2) := by decide +kernel
theorem dX5_init_3 : decode cX5_init 3 = .ok (.iconst 3, 1) := by decide +kernel
theorem dX5_init_4 : decode cX5_init 4 = .ok (.getstatic 3, 3) := by decide +kernel
theorem dX5_init_7 : decode cX5_init 7 = .ok (.iconst 1, 1) := by decide +kernel
theorem dX5_init_8 : decode cX5_init 8 = .ok (.iaload, 1) := by decide +kernel
theorem dX5_init_9 : decode cX5_init 9 = .ok (.invokespecial 7, 3) := by decide +kernel
theorem dX4_init_0 : decode cX4_init 0 = .ok (.aload_n 0, 1) := by decide +kernel
theorem dX4_init_1 : decode cX4_init 1 = .ok (.iconst 1, 1) := by decide +kernel
theorem dX4_init_2 : decode cX4_init 2 = .ok (.iload_n 1, 1) := by decide +kernel
theorem dX4_init_3 : decode cX4_init 3 = .ok (.iload_n 2, 1) := by decide +kernel
theorem dX4_init_4 : decode cX4_init 4 = .ok (.iconst 1, 1) := by decide +kernel
theorem dX4_init_5 : decode cX4_init 5 = .ok (.iadd, 1) := by decide +kernel
theorem dX4_init_6 : decode cX4_init 6 = .ok (.imul, 1) := by decide +kernel
theorem dX4_init_7 : decode cX4_init 7 = .ok (.iadd, 1) := by decide +kernel
theorem dX4_init_8 : decode cX4_init 8 = .ok (.invokespecial 3, 3) := by decide +kernel
theorem w_78 : (Cond.laysFinal "GooseBorder$Night" "GooseBorder$Lines" "most" "I") ∈ gb_wA := gb_t1 78 rfl rfl
theorem w_80 : (Cond.laysFinal "GooseBorder$Night" "GooseBorder$Lines" "numbers" "I") ∈ gb_wA := gb_t1 80 rfl rfl
theorem w_82 : (Cond.laysFinal "GooseBorder$Night" "GooseBorder$Lines" "firstLine" "I") ∈ gb_wA := gb_t1 82 rfl rfl
theorem w_84 : (Cond.laysFinal "GooseBorder$Night" "GooseBorder$Sheet" "cells" "[I") ∈ gb_wA := gb_t1 84 rfl rfl
theorem i_X5 : ∀ w ∈ u_ws RX5 TX5 4, w ∈ gb_wA := (List.forall_mem_cons.mpr ⟨w_78, List.forall_mem_cons.mpr ⟨w_80, List.forall_mem_cons.mpr ⟨w_82, List.forall_mem_cons.mpr ⟨w_84, fun _ h => absurd h List.not_mem_nil⟩⟩⟩⟩ : ∀ w ∈ ([Cond.laysFinal "GooseBorder$Night" "GooseBorder$Lines" "most" "I", Cond.laysFinal "GooseBorder$Night" "GooseBorder$Lines" "numbers" "I", Cond.laysFinal "GooseBorder$Night" "GooseBorder$Lines" "firstLine" "I", Cond.laysFinal "GooseBorder$Night" "GooseBorder$Sheet" "cells" "[I"] : List Cond), w ∈ gb_wA)
set_option maxHeartbeats 4000000 in
set_option maxRecDepth 100000 in
theorem k_X9_init_2 (l : Launch) (D : va_G) (cT : Nat → ClassId) (tt : Nat → Nat) (b1 b : Nat) (hb1 : b1 ≤ b) : Met l yX9_init (.code yX9_init cX9_init 2 none :: gb_wA) ({ frames := 1, cells := 1, slots := 97, locals := 14 }) (gb_Pc D cT tt b1 [.ref (b + 0), .int 97] (fun h => va_P D vwCl (gb_wl b [.inr (4, [.int 0, .int 0, .int 0, .null])]) h ∧ Array.size h = b + 1)) (gb_Qv (fun h => va_P D vwCl (gb_wl b [.inr (4, [.int 0, .int 0, .int 0, .ref (b + 1)]), .inl (cT 0, 97, .inl (fun _ => 0))]) h ∧ Array.size h = b + 2) (gb_ge b)) 1 97 (gb_ge b) := by
  refine Met.ofW (cc := cX9_init) (maxL := 2) (ret := none) (by decide) rfl ?_
  intro p e s m args below meth c s₁ B hml hv
  obtain ⟨rfl, hSt, hP, hz⟩ := hv
  have hx := B.exec
  have hb := B.bytes
  have hr := B.returns
  have hts := atoms_spec (ws := .code yX9_init cX9_init 2 none :: gb_wA) B.pre
  have hq : ∀ w ∈ gb_wA, w.before _ s = true := fun w h => hts w (List.mem_cons_of_mem _ h)
  have hown : s.vm.findClass RX9 = some m.cls := findClass_of_methodNamed B.named
  have hlocks := B.notSynchronized
  have hin : meth.name = "<init>" := (name_of_methodNamed B.named B.method).1
  have hK := hSt.1
  have hS : va_S (gb_ge b) s.heap s.heap [] := va_S.rf
  have hl := lv_entry ([.ref (b + 0), .int 97]) (n := 2) (Nat.le_of_ble_eq_true rfl)
  rw [lg_entry_eq]
  generalize (lg_sl ([.ref (b + 0), .int 97]) ++ List.replicate (2 - (lg_sl ([.ref (b + 0), .int 97])).length) Slot.unset).toArray = ls at hl ⊢
  have hl : lv_has ls 2 [(0, .ref (b + 0)), (1, .int 97)] := hl
  refine lv_aload_n hx hb dX9_init_0 rfl (lv_at hl 0 rfl) ?_
  refine W.objInit hx hb hown (hq _ w_45) (hq _ w_28) (hq _ w_29) rfl (by rw [hml]; exact hl.1) rfl dX9_init_1 (Nat.le_of_ble_eq_true rfl) (Nat.le_of_ble_eq_true rfl) ?_
  refine W.eq (g2 := F0 m 4 ls []) rfl ?_
  refine lv_aload_n hx hb dX9_init_4 rfl (lv_at hl 0 rfl) ?_
  refine lv_iconst (v := 1) hx hb dX9_init_5 (by decide) ?_
  refine lv_iload_n hx hb dX9_init_6 rfl (lv_at hl 1 rfl) ?_
  refine va_mmax hx hb (hml.trans hl.1.symm) hown (hq _ w_46) (hq _ w_47) (hq _ w_5) (hq _ w_48) (Nat.le_of_ble_eq_true rfl) (Nat.le_of_ble_eq_true rfl) (Nat.le_of_ble_eq_true rfl) (Nat.le_of_ble_eq_true rfl) dX9_init_7 ?_
  refine W.eq (g2 := F0 m 10 ls [.int 97, .ref (b + 0)]) (congrArg (fun v => F0 m 10 ls (Value.int v :: [.ref (b + 0)])) (by decide)) ?_
  refine gb_newa (atype := .int) (a0 := (97, .inl (fun _ => 0))) hx hb (hq _ w_59) (ty := .int) rfl hK hP hS 1 hz rfl 0 rfl (fun h => h) (fun _ => rfl) (by decide) (by decide) (Nat.le_of_ble_eq_true rfl) (Nat.le_of_ble_eq_true rfl) (Nat.le_of_ble_eq_true rfl) dX9_init_10 (fun H hP hz hS => ?_)
  have hP : va_P D vwCl (gb_wl b [.inr (4, [.int 0, .int 0, .int 0, .null]), .inl (cT 0, 97, .inl (fun _ => 0))]) H := hP
  refine W.widen (k := 1) (n := 97) (Nat.le_of_ble_eq_true rfl) (Nat.le_of_ble_eq_true rfl) ?_
  refine gb_putF (ci := 4) (v := (.ref (b + 1))) (ty := .array .int) (C := RX5) (T := TX5) (N := 4) hx hb hq i_X5 tyX5 tyX5_ok nmX5 hown hK hP (fun k _ => Nat.le_add_right b k) hS hz 0 rfl rfl 3 (by decide) (hq _ w_51) (fun _ h9 => h9) rfl hin rfl (by decide +kernel) rfl rfl (Nat.le_of_ble_eq_true rfl) dX9_init_12 (fun H locs hP hz hS => ?_)
  have hP : va_P D vwCl (gb_wl b [.inr (4, [.int 0, .int 0, .int 0, .ref (b + 1)]), .inl (cT 0, 97, .inl (fun _ => 0))]) H := hP
  exact W.vret hx hb hr (fun t ht hW => gb_rv ht ⟨hP, hz⟩ hS) hS.2.2 dX9_init_15
theorem w_71 : (Cond.methodLink "GooseBorder$Lines" (3 : Nat) ({ cls := "GooseBorder$Sheet", name := "<init>", desc := "(I)V" } : MethodName)) ∈ gb_wA := gb_t1 71 rfl rfl
theorem dX4_init_11 : decode cX4_init 11 = .ok (.aload_n 0, 1) := by decide +kernel
theorem dX4_init_12 : decode cX4_init 12 = .ok (.iload_n 1, 1) := by decide +kernel
theorem dX4_init_13 : decode cX4_init 13 = .ok (.putfield 9, 3) := by decide +kernel
theorem w_72 : (Cond.fieldLink "GooseBorder$Lines" (9 : Nat) "GooseBorder$Lines" "most" "I") ∈ gb_wA := gb_t1 72 rfl rfl
theorem dX4_init_16 : decode cX4_init 16 = .ok (.aload_n 0, 1) := by decide +kernel
theorem dX4_init_17 : decode cX4_init 17 = .ok (.iload_n 2, 1) := by decide +kernel
theorem dX4_init_18 : decode cX4_init 18 = .ok (.putfield 15, 3) := by decide +kernel
theorem w_73 : (Cond.fieldLink "GooseBorder$Lines" (15 : Nat) "GooseBorder$Lines" "numbers" "I") ∈ gb_wA := gb_t1 73 rfl rfl
theorem dX4_init_21 : decode cX4_init 21 = .ok (.aload_n 0, 1) := by decide +kernel
theorem dX4_init_22 : decode cX4_init 22 = .ok (.iload_n 3, 1) := by decide +kernel
theorem dX4_init_23 : decode cX4_init 23 = .ok (.putfield 18, 3) := by decide +kernel
theorem w_77 : (Cond.fieldLink "GooseBorder$Lines" (18 : Nat) "GooseBorder$Lines" "firstLine" "I") ∈ gb_wA := gb_t1 77 rfl rfl
theorem dX4_init_26 : decode cX4_init 26 = .ok (.return_, 1) := by decide +kernel
set_option maxHeartbeats 4000000 in
set_option maxRecDepth 100000 in
theorem k_X4_init (l : Launch) (D : va_G) (cT : Nat → ClassId) (tt : Nat → Nat) (b1 b : Nat) (hb1 : b1 ≤ b) : Met l yX4_init (.code yX4_init cX4_init 4 none :: gb_wA) ({ frames := 2, cells := 1, slots := 97, locals := 35 }) (gb_Pc D cT tt b1 [.ref (b + 0), .int 24, .int 3, .int 3] (fun h => va_P D vwCl (gb_wl b [.inr (4, [.int 0, .int 0, .int 0, .null])]) h ∧ Array.size h = b + 1)) (gb_Qv (fun h => va_P D vwCl (gb_wl b [.inr (4, [.int 24, .int 3, .int 3, .ref (b + 1)]), .inl (cT 0, 97, .inl (fun _ => 0))]) h ∧ Array.size h = b + 2) (gb_ge b)) 1 97 (gb_ge b) := by
  refine Met.ofW (cc := cX4_init) (maxL := 4) (ret := none) (by decide) rfl ?_
  intro p e s m args below meth c s₁ B hml hv
  obtain ⟨rfl, hSt, hP, hz⟩ := hv
  have hx := B.exec
  have hb := B.bytes
  have hr := B.returns
  have hts := atoms_spec (ws := .code yX4_init cX4_init 4 none :: gb_wA) B.pre
  have hq : ∀ w ∈ gb_wA, w.before _ s = true := fun w h => hts w (List.mem_cons_of_mem _ h)
  have hown : s.vm.findClass RX4 = some m.cls := findClass_of_methodNamed B.named
  have hlocks := B.notSynchronized
  have hin : meth.name = "<init>" := (name_of_methodNamed B.named B.method).1
  have hK := hSt.1
  have hS : va_S (gb_ge b) s.heap s.heap [] := va_S.rf
  have hl := lv_entry ([.ref (b + 0), .int 24, .int 3, .int 3]) (n := 4) (Nat.le_of_ble_eq_true rfl)
  rw [lg_entry_eq]
  generalize (lg_sl ([.ref (b + 0), .int 24, .int 3, .int 3]) ++ List.replicate (4 - (lg_sl ([.ref (b + 0), .int 24, .int 3, .int 3])).length) Slot.unset).toArray = ls at hl ⊢
  have hl : lv_has ls 4 [(0, .ref (b + 0)), (1, .int 24), (2, .int 3), (3, .int 3)] := hl
  refine lv_aload_n hx hb dX4_init_0 rfl (lv_at hl 0 rfl) ?_
  refine lv_iconst (v := 1) hx hb dX4_init_1 (by decide) ?_
  refine lv_iload_n hx hb dX4_init_2 rfl (lv_at hl 1 rfl) ?_
  refine lv_iload_n hx hb dX4_init_3 rfl (lv_at hl 2 rfl) ?_
  refine lv_iconst (v := 1) hx hb dX4_init_4 (by decide) ?_
  refine lv_iadd hx hb dX4_init_5 ?_
  refine W.eq (g2 := F0 m 6 ls [.int 4, .int 24, .int 1, .ref (b + 0)]) (congrArg (fun v => F0 m 6 ls (Value.int v :: [.int 24, .int 1, .ref (b + 0)])) (show (3 : Int32) + 1 = 4 by decide)) ?_
  refine lv_imul hx hb dX4_init_6 ?_
  refine W.eq (g2 := F0 m 7 ls [.int 96, .int 1, .ref (b + 0)]) (congrArg (fun v => F0 m 7 ls (Value.int v :: [.int 1, .ref (b + 0)])) (show (24 : Int32) * 4 = 96 by decide)) ?_
  refine lv_iadd hx hb dX4_init_7 ?_
  refine W.eq (g2 := F0 m 8 ls [.int 97, .ref (b + 0)]) (congrArg (fun v => F0 m 8 ls (Value.int v :: [.ref (b + 0)])) (show (1 : Int32) + 96 = 97 by decide)) ?_
  have hPc := gb_drop hP 0 (suf := [.inr (4, [.int 0, .int 0, .int 0, .null])]) rfl rfl
  refine gb_callv (va_runI (As := [.int 97]) (rest := []) ⟨hx, hb, hml, hown, hq⟩ (k_X9_init_2 l D cT tt b1 (b + 0) (Nat.le_trans hb1 (Nat.le_add_right b 0))) (cwI 1 hq (gb_gI w_44) rfl rfl rfl (hq _ w_3) (hq _ w_71) (hq _ w_43) rfl (by decide +kernel) ⟨Nat.le_of_ble_eq_true rfl, Nat.le_of_ble_eq_true rfl⟩) (gb_preS hSt hS (fun q h => Nat.le_trans hb1 h) (show va_P D vwCl (gb_wl (b + 0) [.inr (4, [.int 0, .int 0, .int 0, .null])]) s.heap ∧ Array.size s.heap = b + 0 + 1 from ⟨hPc, hz⟩)) rfl rfl hl.1 rfl (lv_room (Nat.le_of_ble_eq_true rfl)) dX4_init_8 ⟨Nat.le_of_ble_eq_true rfl, Nat.le_of_ble_eq_true rfl⟩) hS (fun q h => Nat.le_trans (Nat.le_add_right b 0) h) (fun q h => Nat.le_trans (Nat.le_add_right b 0) h) (fun H locs hY hk hS => ?_)
  have hP := gb_glue hP 0 (pre := []) rfl rfl hk hY.1
  have hP : va_P D vwCl (gb_wl b [.inr (4, [.int 0, .int 0, .int 0, .ref (b + 1)]), .inl (cT 0, 97, .inl (fun _ => 0))]) H := hP
  have hz : Array.size H = b + 2 := hY.2
  refine W.widen (k := 1) (n := 97) (Nat.le_of_ble_eq_true rfl) (Nat.le_of_ble_eq_true rfl) ?_
  refine lv_aload_n hx hb dX4_init_11 rfl (lv_at hl 0 rfl) ?_
  refine lv_iload_n hx hb dX4_init_12 rfl (lv_at hl 1 rfl) ?_
  refine gb_putF (ci := 4) (v := (.int 24)) (ty := .int) (C := RX5) (T := TX5) (N := 4) hx hb hq i_X5 tyX5 tyX5_ok nmX5 hown hK hP (fun k _ => Nat.le_add_right b k) hS hz 0 rfl rfl 0 (by decide) (hq _ w_72) (fun _ h9 => h9) rfl hin rfl (by decide +kernel) rfl rfl (Nat.le_of_ble_eq_true rfl) dX4_init_13 (fun H locs hP hz hS => ?_)
  have hP : va_P D vwCl (gb_wl b [.inr (4, [.int 24, .int 0, .int 0, .ref (b + 1)]), .inl (cT 0, 97, .inl (fun _ => 0))]) H := hP
  refine lv_aload_n hx hb dX4_init_16 rfl (lv_at hl 0 rfl) ?_
  refine lv_iload_n hx hb dX4_init_17 rfl (lv_at hl 2 rfl) ?_
  refine gb_putF (ci := 4) (v := (.int 3)) (ty := .int) (C := RX5) (T := TX5) (N := 4) hx hb hq i_X5 tyX5 tyX5_ok nmX5 hown hK hP (fun k _ => Nat.le_add_right b k) hS hz 0 rfl rfl 1 (by decide) (hq _ w_73) (fun _ h9 => h9) rfl hin rfl (by decide +kernel) rfl rfl (Nat.le_of_ble_eq_true rfl) dX4_init_18 (fun H locs hP hz hS => ?_)
  have hP : va_P D vwCl (gb_wl b [.inr (4, [.int 24, .int 3, .int 0, .ref (b + 1)]), .inl (cT 0, 97, .inl (fun _ => 0))]) H := hP
  refine lv_aload_n hx hb dX4_init_21 rfl (lv_at hl 0 rfl) ?_
  refine lv_iload_n hx hb dX4_init_22 rfl (lv_at hl 3 rfl) ?_
  refine gb_putF (ci := 4) (v := (.int 3)) (ty := .int) (C := RX5) (T := TX5) (N := 4) hx hb hq i_X5 tyX5 tyX5_ok nmX5 hown hK hP (fun k _ => Nat.le_add_right b k) hS hz 0 rfl rfl 2 (by decide) (hq _ w_77) (fun _ h9 => h9) rfl hin rfl (by decide +kernel) rfl rfl (Nat.le_of_ble_eq_true rfl) dX4_init_23 (fun H locs hP hz hS => ?_)
  have hP : va_P D vwCl (gb_wl b [.inr (4, [.int 24, .int 3, .int 3, .ref (b + 1)]), .inl (cT 0, 97, .inl (fun _ => 0))]) H := hP
  exact W.vret hx hb hr (fun t ht hW => gb_rv ht ⟨hP, hz⟩ hS) hS.2.2 dX4_init_26
theorem w_70 : (Cond.code ({ cls := "GooseBorder$Lines", name := "<init>", desc := "(III)V" } : MethodName) prog_6_method_1_code (4 : Nat) (Option.none : Option FieldType)) ∈ gb_wA := gb_t1 70 rfl rfl
theorem w_6 : (Cond.initialized "GooseBorder$Lines") ∈ gb_wA := gb_t1 6 rfl rfl
theorem w_68 : (Cond.methodLink "GooseBorder$Night" (7 : Nat) ({ cls := "GooseBorder$Lines", name := "<init>", desc := "(III)V" } : MethodName)) ∈ gb_wA := gb_t1 68 rfl rfl
theorem w_69 : (Cond.instanceMethod ({ cls := "GooseBorder$Lines", name := "<init>", desc := "(III)V" } : MethodName)) ∈ gb_wA := gb_t1 69 rfl rfl
theorem dX5_init_12 : decode cX5_init 12 = .ok (.return_, 1) := by decide +kernel
set_option maxHeartbeats 4000000 in
set_option maxRecDepth 100000 in
theorem k_X5_init (l : Launch) (D : va_G) (cT : Nat → ClassId) (tt : Nat → Nat) (b1 b : Nat) (hb1 : b1 ≤ b) : Met l yX5_init (.code yX5_init cX5_init 1 none :: gb_wA) ({ frames := 3, cells := 1, slots := 97, locals := 58 }) (gb_Pc D cT tt b1 [.ref (b + 0)] (fun h => va_P D vwCl (gb_wl b [.inr (4, [.int 0, .int 0, .int 0, .null])]) h ∧ Array.size h = b + 1)) (gb_Qv (fun h => va_P D vwCl (gb_wl b [.inr (4, [.int 24, .int 3, .int 3, .ref (b + 1)]), .inl (cT 0, 97, .inl (fun _ => 0))]) h ∧ Array.size h = b + 2) (gb_ge b)) 1 97 (gb_ge b) := by
  refine Met.ofW (cc := cX5_init) (maxL := 1) (ret := none) (by decide) rfl ?_
  intro p e s m args below meth c s₁ B hml hv
  obtain ⟨rfl, hSt, hP, hz⟩ := hv
  have hx := B.exec
  have hb := B.bytes
  have hr := B.returns
  have hts := atoms_spec (ws := .code yX5_init cX5_init 1 none :: gb_wA) B.pre
  have hq : ∀ w ∈ gb_wA, w.before _ s = true := fun w h => hts w (List.mem_cons_of_mem _ h)
  have hown : s.vm.findClass RX5 = some m.cls := findClass_of_methodNamed B.named
  have hlocks := B.notSynchronized
  have hin : meth.name = "<init>" := (name_of_methodNamed B.named B.method).1
  have hK := hSt.1
  have hS : va_S (gb_ge b) s.heap s.heap [] := va_S.rf
  have hl := lv_entry ([.ref (b + 0)]) (n := 1) (Nat.le_of_ble_eq_true rfl)
  rw [lg_entry_eq]
  generalize (lg_sl ([.ref (b + 0)]) ++ List.replicate (1 - (lg_sl ([.ref (b + 0)])).length) Slot.unset).toArray = ls at hl ⊢
  have hl : lv_has ls 1 [(0, .ref (b + 0))] := hl
  refine lv_aload_n hx hb dX5_init_0 rfl (lv_at hl 0 rfl) ?_
  refine lv_bipush (v := 24) hx hb dX5_init_1 (by decide) ?_
  refine lv_iconst (v := 3) hx hb dX5_init_3 (by decide) ?_
  refine va_getsN hx hb (hSt.2.2.2.1.1.narrow (fun q h => Nat.le_trans hb1 h)) hS hown (va_Nw.use rfl (hSt.2.1 _ gb_n66)) (fun _ h9 => h9) dX5_init_4 ?_
  refine lv_iconst (v := 1) hx hb dX5_init_7 (by decide) ?_
  refine va_ti (v := (.int 3)) hx hb (hSt.2.2.2.1.2.narrow (fun q h => Nat.le_trans hb1 h)) hS (gb_in rfl) rfl dX5_init_8 ?_
  have hPc := gb_drop hP 0 (suf := [.inr (4, [.int 0, .int 0, .int 0, .null])]) rfl rfl
  refine gb_callv (va_runI (As := [.int 24, .int 3, .int 3]) (rest := []) ⟨hx, hb, hml, hown, hq⟩ (k_X4_init l D cT tt b1 (b + 0) (Nat.le_trans hb1 (Nat.le_add_right b 0))) (cwI 3 hq (gb_gI w_70) rfl rfl rfl (hq _ w_6) (hq _ w_68) (hq _ w_69) rfl (by decide +kernel) ⟨Nat.le_of_ble_eq_true rfl, Nat.le_of_ble_eq_true rfl⟩) (gb_preS hSt hS (fun q h => Nat.le_trans hb1 h) (show va_P D vwCl (gb_wl (b + 0) [.inr (4, [.int 0, .int 0, .int 0, .null])]) s.heap ∧ Array.size s.heap = b + 0 + 1 from ⟨hPc, hz⟩)) rfl rfl hl.1 rfl (lv_room (Nat.le_of_ble_eq_true rfl)) dX5_init_9 ⟨Nat.le_of_ble_eq_true rfl, Nat.le_of_ble_eq_true rfl⟩) hS (fun q h => Nat.le_trans (Nat.le_add_right b 0) h) (fun q h => Nat.le_trans (Nat.le_add_right b 0) h) (fun H locs hY hk hS => ?_)
  have hP := gb_glue hP 0 (pre := []) rfl rfl hk hY.1
  have hP : va_P D vwCl (gb_wl b [.inr (4, [.int 24, .int 3, .int 3, .ref (b + 1)]), .inl (cT 0, 97, .inl (fun _ => 0))]) H := hP
  have hz : Array.size H = b + 2 := hY.2
  refine W.widen (k := 1) (n := 97) (Nat.le_of_ble_eq_true rfl) (Nat.le_of_ble_eq_true rfl) ?_
  exact W.vret hx hb hr (fun t ht hW => gb_rv ht ⟨hP, hz⟩ hS) hS.2.2 dX5_init_12
theorem dX3_init_0 : decode cX3_init 0 = .ok (.aload_n 0, 1) := by decide +kernel
theorem dX3_init_1 : decode cX3_init 1 = .ok (.bipush 8, 2) := by decide +kernel
theorem dX3_init_3 : decode cX3_init 3 = .ok (.iconst 2, 1) := by decide +kernel
theorem dX3_init_4 : decode cX3_init 4 = .ok (.getstatic 3, 3) := by decide +kernel
theorem dX3_init_7 : decode cX3_init 7 = .ok (.iconst 2, 1) := by decide +kernel
theorem dX3_init_8 : decode cX3_init 8 = .ok (.iaload, 1) := by decide +kernel
theorem dX3_init_9 : decode cX3_init 9 = .ok (.invokespecial 7, 3) := by decide +kernel
theorem w_94 : (Cond.laysFinal "GooseBorder$Law" "GooseBorder$Lines" "most" "I") ∈ gb_wA := gb_t1 94 rfl rfl
theorem w_95 : (Cond.laysFinal "GooseBorder$Law" "GooseBorder$Lines" "numbers" "I") ∈ gb_wA := gb_t1 95 rfl rfl
theorem w_96 : (Cond.laysFinal "GooseBorder$Law" "GooseBorder$Lines" "firstLine" "I") ∈ gb_wA := gb_t1 96 rfl rfl
theorem w_97 : (Cond.laysFinal "GooseBorder$Law" "GooseBorder$Sheet" "cells" "[I") ∈ gb_wA := gb_t1 97 rfl rfl
theorem i_X3 : ∀ w ∈ u_ws RX3 TX3 4, w ∈ gb_wA := (List.forall_mem_cons.mpr ⟨w_94, List.forall_mem_cons.mpr ⟨w_95, List.forall_mem_cons.mpr ⟨w_96, List.forall_mem_cons.mpr ⟨w_97, fun _ h => absurd h List.not_mem_nil⟩⟩⟩⟩ : ∀ w ∈ ([Cond.laysFinal "GooseBorder$Law" "GooseBorder$Lines" "most" "I", Cond.laysFinal "GooseBorder$Law" "GooseBorder$Lines" "numbers" "I", Cond.laysFinal "GooseBorder$Law" "GooseBorder$Lines" "firstLine" "I", Cond.laysFinal "GooseBorder$Law" "GooseBorder$Sheet" "cells" "[I"] : List Cond), w ∈ gb_wA)
set_option maxHeartbeats 4000000 in
set_option maxRecDepth 100000 in
theorem k_X9_init_3 (l : Launch) (D : va_G) (cT : Nat → ClassId) (tt : Nat → Nat) (b1 b : Nat) (hb1 : b1 ≤ b) : Met l yX9_init (.code yX9_init cX9_init 2 none :: gb_wA) ({ frames := 1, cells := 1, slots := 25, locals := 14 }) (gb_Pc D cT tt b1 [.ref (b + 0), .int 25] (fun h => va_P D vwCl (gb_wl b [.inr (3, [.int 0, .int 0, .int 0, .null])]) h ∧ Array.size h = b + 1)) (gb_Qv (fun h => va_P D vwCl (gb_wl b [.inr (3, [.int 0, .int 0, .int 0, .ref (b + 1)]), .inl (cT 0, 25, .inl (fun _ => 0))]) h ∧ Array.size h = b + 2) (gb_ge b)) 1 25 (gb_ge b) := by
  refine Met.ofW (cc := cX9_init) (maxL := 2) (ret := none) (by decide) rfl ?_
  intro p e s m args below meth c s₁ B hml hv
  obtain ⟨rfl, hSt, hP, hz⟩ := hv
  have hx := B.exec
  have hb := B.bytes
  have hr := B.returns
  have hts := atoms_spec (ws := .code yX9_init cX9_init 2 none :: gb_wA) B.pre
  have hq : ∀ w ∈ gb_wA, w.before _ s = true := fun w h => hts w (List.mem_cons_of_mem _ h)
  have hown : s.vm.findClass RX9 = some m.cls := findClass_of_methodNamed B.named
  have hlocks := B.notSynchronized
  have hin : meth.name = "<init>" := (name_of_methodNamed B.named B.method).1
  have hK := hSt.1
  have hS : va_S (gb_ge b) s.heap s.heap [] := va_S.rf
  have hl := lv_entry ([.ref (b + 0), .int 25]) (n := 2) (Nat.le_of_ble_eq_true rfl)
  rw [lg_entry_eq]
  generalize (lg_sl ([.ref (b + 0), .int 25]) ++ List.replicate (2 - (lg_sl ([.ref (b + 0), .int 25])).length) Slot.unset).toArray = ls at hl ⊢
  have hl : lv_has ls 2 [(0, .ref (b + 0)), (1, .int 25)] := hl
  refine lv_aload_n hx hb dX9_init_0 rfl (lv_at hl 0 rfl) ?_
  refine W.objInit hx hb hown (hq _ w_45) (hq _ w_28) (hq _ w_29) rfl (by rw [hml]; exact hl.1) rfl dX9_init_1 (Nat.le_of_ble_eq_true rfl) (Nat.le_of_ble_eq_true rfl) ?_
  refine W.eq (g2 := F0 m 4 ls []) rfl ?_
  refine lv_aload_n hx hb dX9_init_4 rfl (lv_at hl 0 rfl) ?_
  refine lv_iconst (v := 1) hx hb dX9_init_5 (by decide) ?_
  refine lv_iload_n hx hb dX9_init_6 rfl (lv_at hl 1 rfl) ?_
  refine va_mmax hx hb (hml.trans hl.1.symm) hown (hq _ w_46) (hq _ w_47) (hq _ w_5) (hq _ w_48) (Nat.le_of_ble_eq_true rfl) (Nat.le_of_ble_eq_true rfl) (Nat.le_of_ble_eq_true rfl) (Nat.le_of_ble_eq_true rfl) dX9_init_7 ?_
  refine W.eq (g2 := F0 m 10 ls [.int 25, .ref (b + 0)]) (congrArg (fun v => F0 m 10 ls (Value.int v :: [.ref (b + 0)])) (by decide)) ?_
  refine gb_newa (atype := .int) (a0 := (25, .inl (fun _ => 0))) hx hb (hq _ w_59) (ty := .int) rfl hK hP hS 1 hz rfl 0 rfl (fun h => h) (fun _ => rfl) (by decide) (by decide) (Nat.le_of_ble_eq_true rfl) (Nat.le_of_ble_eq_true rfl) (Nat.le_of_ble_eq_true rfl) dX9_init_10 (fun H hP hz hS => ?_)
  have hP : va_P D vwCl (gb_wl b [.inr (3, [.int 0, .int 0, .int 0, .null]), .inl (cT 0, 25, .inl (fun _ => 0))]) H := hP
  refine W.widen (k := 1) (n := 25) (Nat.le_of_ble_eq_true rfl) (Nat.le_of_ble_eq_true rfl) ?_
  refine gb_putF (ci := 3) (v := (.ref (b + 1))) (ty := .array .int) (C := RX3) (T := TX3) (N := 4) hx hb hq i_X3 tyX3 tyX3_ok nmX3 hown hK hP (fun k _ => Nat.le_add_right b k) hS hz 0 rfl rfl 3 (by decide) (hq _ w_51) (fun _ h9 => h9) rfl hin rfl (by decide +kernel) rfl rfl (Nat.le_of_ble_eq_true rfl) dX9_init_12 (fun H locs hP hz hS => ?_)
  have hP : va_P D vwCl (gb_wl b [.inr (3, [.int 0, .int 0, .int 0, .ref (b + 1)]), .inl (cT 0, 25, .inl (fun _ => 0))]) H := hP
  exact W.vret hx hb hr (fun t ht hW => gb_rv ht ⟨hP, hz⟩ hS) hS.2.2 dX9_init_15
set_option maxHeartbeats 4000000 in
set_option maxRecDepth 100000 in
theorem k_X4_init_2 (l : Launch) (D : va_G) (cT : Nat → ClassId) (tt : Nat → Nat) (b1 b : Nat) (hb1 : b1 ≤ b) : Met l yX4_init (.code yX4_init cX4_init 4 none :: gb_wA) ({ frames := 2, cells := 1, slots := 25, locals := 35 }) (gb_Pc D cT tt b1 [.ref (b + 0), .int 8, .int 2, .int 12] (fun h => va_P D vwCl (gb_wl b [.inr (3, [.int 0, .int 0, .int 0, .null])]) h ∧ Array.size h = b + 1)) (gb_Qv (fun h => va_P D vwCl (gb_wl b [.inr (3, [.int 8, .int 2, .int 12, .ref (b + 1)]), .inl (cT 0, 25, .inl (fun _ => 0))]) h ∧ Array.size h = b + 2) (gb_ge b)) 1 25 (gb_ge b) := by
  refine Met.ofW (cc := cX4_init) (maxL := 4) (ret := none) (by decide) rfl ?_
  intro p e s m args below meth c s₁ B hml hv
  obtain ⟨rfl, hSt, hP, hz⟩ := hv
  have hx := B.exec
  have hb := B.bytes
  have hr := B.returns
  have hts := atoms_spec (ws := .code yX4_init cX4_init 4 none :: gb_wA) B.pre
  have hq : ∀ w ∈ gb_wA, w.before _ s = true := fun w h => hts w (List.mem_cons_of_mem _ h)
  have hown : s.vm.findClass RX4 = some m.cls := findClass_of_methodNamed B.named
  have hlocks := B.notSynchronized
  have hin : meth.name = "<init>" := (name_of_methodNamed B.named B.method).1
  have hK := hSt.1
  have hS : va_S (gb_ge b) s.heap s.heap [] := va_S.rf
  have hl := lv_entry ([.ref (b + 0), .int 8, .int 2, .int 12]) (n := 4) (Nat.le_of_ble_eq_true rfl)
  rw [lg_entry_eq]
  generalize (lg_sl ([.ref (b + 0), .int 8, .int 2, .int 12]) ++ List.replicate (4 - (lg_sl ([.ref (b + 0), .int 8, .int 2, .int 12])).length) Slot.unset).toArray = ls at hl ⊢
  have hl : lv_has ls 4 [(0, .ref (b + 0)), (1, .int 8), (2, .int 2), (3, .int 12)] := hl
  refine lv_aload_n hx hb dX4_init_0 rfl (lv_at hl 0 rfl) ?_
  refine lv_iconst (v := 1) hx hb dX4_init_1 (by decide) ?_
  refine lv_iload_n hx hb dX4_init_2 rfl (lv_at hl 1 rfl) ?_
  refine lv_iload_n hx hb dX4_init_3 rfl (lv_at hl 2 rfl) ?_
  refine lv_iconst (v := 1) hx hb dX4_init_4 (by decide) ?_
  refine lv_iadd hx hb dX4_init_5 ?_
  refine W.eq (g2 := F0 m 6 ls [.int 3, .int 8, .int 1, .ref (b + 0)]) (congrArg (fun v => F0 m 6 ls (Value.int v :: [.int 8, .int 1, .ref (b + 0)])) (show (2 : Int32) + 1 = 3 by decide)) ?_
  refine lv_imul hx hb dX4_init_6 ?_
  refine W.eq (g2 := F0 m 7 ls [.int 24, .int 1, .ref (b + 0)]) (congrArg (fun v => F0 m 7 ls (Value.int v :: [.int 1, .ref (b + 0)])) (show (8 : Int32) * 3 = 24 by decide)) ?_
  refine lv_iadd hx hb dX4_init_7 ?_
  refine W.eq (g2 := F0 m 8 ls [.int 25, .ref (b + 0)]) (congrArg (fun v => F0 m 8 ls (Value.int v :: [.ref (b + 0)])) (show (1 : Int32) + 24 = 25 by decide)) ?_
  have hPc := gb_drop hP 0 (suf := [.inr (3, [.int 0, .int 0, .int 0, .null])]) rfl rfl
  refine gb_callv (va_runI (As := [.int 25]) (rest := []) ⟨hx, hb, hml, hown, hq⟩ (k_X9_init_3 l D cT tt b1 (b + 0) (Nat.le_trans hb1 (Nat.le_add_right b 0))) (cwI 1 hq (gb_gI w_44) rfl rfl rfl (hq _ w_3) (hq _ w_71) (hq _ w_43) rfl (by decide +kernel) ⟨Nat.le_of_ble_eq_true rfl, Nat.le_of_ble_eq_true rfl⟩) (gb_preS hSt hS (fun q h => Nat.le_trans hb1 h) (show va_P D vwCl (gb_wl (b + 0) [.inr (3, [.int 0, .int 0, .int 0, .null])]) s.heap ∧ Array.size s.heap = b + 0 + 1 from ⟨hPc, hz⟩)) rfl rfl hl.1 rfl (lv_room (Nat.le_of_ble_eq_true rfl)) dX4_init_8 ⟨Nat.le_of_ble_eq_true rfl, Nat.le_of_ble_eq_true rfl⟩) hS (fun q h => Nat.le_trans (Nat.le_add_right b 0) h) (fun q h => Nat.le_trans (Nat.le_add_right b 0) h) (fun H locs hY hk hS => ?_)
  have hP := gb_glue hP 0 (pre := []) rfl rfl hk hY.1
  have hP : va_P D vwCl (gb_wl b [.inr (3, [.int 0, .int 0, .int 0, .ref (b + 1)]), .inl (cT 0, 25, .inl (fun _ => 0))]) H := hP
  have hz : Array.size H = b + 2 := hY.2
  refine W.widen (k := 1) (n := 25) (Nat.le_of_ble_eq_true rfl) (Nat.le_of_ble_eq_true rfl) ?_
  refine lv_aload_n hx hb dX4_init_11 rfl (lv_at hl 0 rfl) ?_
  refine lv_iload_n hx hb dX4_init_12 rfl (lv_at hl 1 rfl) ?_
  refine gb_putF (ci := 3) (v := (.int 8)) (ty := .int) (C := RX3) (T := TX3) (N := 4) hx hb hq i_X3 tyX3 tyX3_ok nmX3 hown hK hP (fun k _ => Nat.le_add_right b k) hS hz 0 rfl rfl 0 (by decide) (hq _ w_72) (fun _ h9 => h9) rfl hin rfl (by decide +kernel) rfl rfl (Nat.le_of_ble_eq_true rfl) dX4_init_13 (fun H locs hP hz hS => ?_)
  have hP : va_P D vwCl (gb_wl b [.inr (3, [.int 8, .int 0, .int 0, .ref (b + 1)]), .inl (cT 0, 25, .inl (fun _ => 0))]) H := hP
  refine lv_aload_n hx hb dX4_init_16 rfl (lv_at hl 0 rfl) ?_
  refine lv_iload_n hx hb dX4_init_17 rfl (lv_at hl 2 rfl) ?_
  refine gb_putF (ci := 3) (v := (.int 2)) (ty := .int) (C := RX3) (T := TX3) (N := 4) hx hb hq i_X3 tyX3 tyX3_ok nmX3 hown hK hP (fun k _ => Nat.le_add_right b k) hS hz 0 rfl rfl 1 (by decide) (hq _ w_73) (fun _ h9 => h9) rfl hin rfl (by decide +kernel) rfl rfl (Nat.le_of_ble_eq_true rfl) dX4_init_18 (fun H locs hP hz hS => ?_)
  have hP : va_P D vwCl (gb_wl b [.inr (3, [.int 8, .int 2, .int 0, .ref (b + 1)]), .inl (cT 0, 25, .inl (fun _ => 0))]) H := hP
  refine lv_aload_n hx hb dX4_init_21 rfl (lv_at hl 0 rfl) ?_
  refine lv_iload_n hx hb dX4_init_22 rfl (lv_at hl 3 rfl) ?_
  refine gb_putF (ci := 3) (v := (.int 12)) (ty := .int) (C := RX3) (T := TX3) (N := 4) hx hb hq i_X3 tyX3 tyX3_ok nmX3 hown hK hP (fun k _ => Nat.le_add_right b k) hS hz 0 rfl rfl 2 (by decide) (hq _ w_77) (fun _ h9 => h9) rfl hin rfl (by decide +kernel) rfl rfl (Nat.le_of_ble_eq_true rfl) dX4_init_23 (fun H locs hP hz hS => ?_)
  have hP : va_P D vwCl (gb_wl b [.inr (3, [.int 8, .int 2, .int 12, .ref (b + 1)]), .inl (cT 0, 25, .inl (fun _ => 0))]) H := hP
  exact W.vret hx hb hr (fun t ht hW => gb_rv ht ⟨hP, hz⟩ hS) hS.2.2 dX4_init_26
theorem w_93 : (Cond.methodLink "GooseBorder$Law" (7 : Nat) ({ cls := "GooseBorder$Lines", name := "<init>", desc := "(III)V" } : MethodName)) ∈ gb_wA := gb_t1 93 rfl rfl
theorem dX3_init_12 : decode cX3_init 12 = .ok (.return_, 1) := by decide +kernel
set_option maxHeartbeats 4000000 in
set_option maxRecDepth 100000 in
theorem k_X3_init (l : Launch) (D : va_G) (cT : Nat → ClassId) (tt : Nat → Nat) (b1 b : Nat) (hb1 : b1 ≤ b) : Met l yX3_init (.code yX3_init cX3_init 1 none :: gb_wA) ({ frames := 3, cells := 1, slots := 25, locals := 58 }) (gb_Pc D cT tt b1 [.ref (b + 0)] (fun h => va_P D vwCl (gb_wl b [.inr (3, [.int 0, .int 0, .int 0, .null])]) h ∧ Array.size h = b + 1)) (gb_Qv (fun h => va_P D vwCl (gb_wl b [.inr (3, [.int 8, .int 2, .int 12, .ref (b + 1)]), .inl (cT 0, 25, .inl (fun _ => 0))]) h ∧ Array.size h = b + 2) (gb_ge b)) 1 25 (gb_ge b) := by
  refine Met.ofW (cc := cX3_init) (maxL := 1) (ret := none) (by decide) rfl ?_
  intro p e s m args below meth c s₁ B hml hv
  obtain ⟨rfl, hSt, hP, hz⟩ := hv
  have hx := B.exec
  have hb := B.bytes
  have hr := B.returns
  have hts := atoms_spec (ws := .code yX3_init cX3_init 1 none :: gb_wA) B.pre
  have hq : ∀ w ∈ gb_wA, w.before _ s = true := fun w h => hts w (List.mem_cons_of_mem _ h)
  have hown : s.vm.findClass RX3 = some m.cls := findClass_of_methodNamed B.named
  have hlocks := B.notSynchronized
  have hin : meth.name = "<init>" := (name_of_methodNamed B.named B.method).1
  have hK := hSt.1
  have hS : va_S (gb_ge b) s.heap s.heap [] := va_S.rf
  have hl := lv_entry ([.ref (b + 0)]) (n := 1) (Nat.le_of_ble_eq_true rfl)
  rw [lg_entry_eq]
  generalize (lg_sl ([.ref (b + 0)]) ++ List.replicate (1 - (lg_sl ([.ref (b + 0)])).length) Slot.unset).toArray = ls at hl ⊢
  have hl : lv_has ls 1 [(0, .ref (b + 0))] := hl
  refine lv_aload_n hx hb dX3_init_0 rfl (lv_at hl 0 rfl) ?_
  refine lv_bipush (v := 8) hx hb dX3_init_1 (by decide) ?_
  refine lv_iconst (v := 2) hx hb dX3_init_3 (by decide) ?_
  refine va_getsN hx hb (hSt.2.2.2.1.1.narrow (fun q h => Nat.le_trans hb1 h)) hS hown (va_Nw.use rfl (hSt.2.1 _ gb_n92)) (fun _ h9 => h9) dX3_init_4 ?_
  refine lv_iconst (v := 2) hx hb dX3_init_7 (by decide) ?_
  refine va_ti (v := (.int 12)) hx hb (hSt.2.2.2.1.2.narrow (fun q h => Nat.le_trans hb1 h)) hS (gb_in rfl) rfl dX3_init_8 ?_
  have hPc := gb_drop hP 0 (suf := [.inr (3, [.int 0, .int 0, .int 0, .null])]) rfl rfl
  refine gb_callv (va_runI (As := [.int 8, .int 2, .int 12]) (rest := []) ⟨hx, hb, hml, hown, hq⟩ (k_X4_init_2 l D cT tt b1 (b + 0) (Nat.le_trans hb1 (Nat.le_add_right b 0))) (cwI 3 hq (gb_gI w_70) rfl rfl rfl (hq _ w_6) (hq _ w_93) (hq _ w_69) rfl (by decide +kernel) ⟨Nat.le_of_ble_eq_true rfl, Nat.le_of_ble_eq_true rfl⟩) (gb_preS hSt hS (fun q h => Nat.le_trans hb1 h) (show va_P D vwCl (gb_wl (b + 0) [.inr (3, [.int 0, .int 0, .int 0, .null])]) s.heap ∧ Array.size s.heap = b + 0 + 1 from ⟨hPc, hz⟩)) rfl rfl hl.1 rfl (lv_room (Nat.le_of_ble_eq_true rfl)) dX3_init_9 ⟨Nat.le_of_ble_eq_true rfl, Nat.le_of_ble_eq_true rfl⟩) hS (fun q h => Nat.le_trans (Nat.le_add_right b 0) h) (fun q h => Nat.le_trans (Nat.le_add_right b 0) h) (fun H locs hY hk hS => ?_)
  have hP := gb_glue hP 0 (pre := []) rfl rfl hk hY.1
  have hP : va_P D vwCl (gb_wl b [.inr (3, [.int 8, .int 2, .int 12, .ref (b + 1)]), .inl (cT 0, 25, .inl (fun _ => 0))]) H := hP
  have hz : Array.size H = b + 2 := hY.2
  refine W.widen (k := 1) (n := 25) (Nat.le_of_ble_eq_true rfl) (Nat.le_of_ble_eq_true rfl) ?_
  exact W.vret hx hb hr (fun t ht hW => gb_rv ht ⟨hP, hz⟩ hS) hS.2.2 dX3_init_12
theorem dX1_init_0 : decode cX1_init 0 = .ok (.aload_n 0, 1) := by decide +kernel
theorem dX1_init_1 : decode cX1_init 1 = .ok (.iconst 5, 1) := by decide +kernel
theorem dX1_init_2 : decode cX1_init 2 = .ok (.iconst 2, 1) := by decide +kernel
theorem dX1_init_3 : decode cX1_init 3 = .ok (.getstatic 3, 3) := by decide +kernel
theorem dX1_init_6 : decode cX1_init 6 = .ok (.iconst 3, 1) := by decide +kernel
theorem dX1_init_7 : decode cX1_init 7 = .ok (.iaload, 1) := by decide +kernel
theorem dX1_init_8 : decode cX1_init 8 = .ok (.invokespecial 7, 3) := by decide +kernel
theorem w_107 : (Cond.laysFinal "GooseBorder$Dawn" "GooseBorder$Lines" "most" "I") ∈ gb_wA := gb_t1 107 rfl rfl
theorem w_108 : (Cond.laysFinal "GooseBorder$Dawn" "GooseBorder$Lines" "numbers" "I") ∈ gb_wA := gb_t1 108 rfl rfl
theorem w_109 : (Cond.laysFinal "GooseBorder$Dawn" "GooseBorder$Lines" "firstLine" "I") ∈ gb_wA := gb_t1 109 rfl rfl
theorem w_110 : (Cond.laysFinal "GooseBorder$Dawn" "GooseBorder$Sheet" "cells" "[I") ∈ gb_wA := gb_t1 110 rfl rfl
theorem i_X1 : ∀ w ∈ u_ws RX1 TX1 4, w ∈ gb_wA := (List.forall_mem_cons.mpr ⟨w_107, List.forall_mem_cons.mpr ⟨w_108, List.forall_mem_cons.mpr ⟨w_109, List.forall_mem_cons.mpr ⟨w_110, fun _ h => absurd h List.not_mem_nil⟩⟩⟩⟩ : ∀ w ∈ ([Cond.laysFinal "GooseBorder$Dawn" "GooseBorder$Lines" "most" "I", Cond.laysFinal "GooseBorder$Dawn" "GooseBorder$Lines" "numbers" "I", Cond.laysFinal "GooseBorder$Dawn" "GooseBorder$Lines" "firstLine" "I", Cond.laysFinal "GooseBorder$Dawn" "GooseBorder$Sheet" "cells" "[I"] : List Cond), w ∈ gb_wA)
set_option maxHeartbeats 4000000 in
set_option maxRecDepth 100000 in
theorem k_X9_init_4 (l : Launch) (D : va_G) (cT : Nat → ClassId) (tt : Nat → Nat) (b1 b : Nat) (hb1 : b1 ≤ b) : Met l yX9_init (.code yX9_init cX9_init 2 none :: gb_wA) ({ frames := 1, cells := 1, slots := 16, locals := 14 }) (gb_Pc D cT tt b1 [.ref (b + 0), .int 16] (fun h => va_P D vwCl (gb_wl b [.inr (1, [.int 0, .int 0, .int 0, .null])]) h ∧ Array.size h = b + 1)) (gb_Qv (fun h => va_P D vwCl (gb_wl b [.inr (1, [.int 0, .int 0, .int 0, .ref (b + 1)]), .inl (cT 0, 16, .inl (fun _ => 0))]) h ∧ Array.size h = b + 2) (gb_ge b)) 1 16 (gb_ge b) := by
  refine Met.ofW (cc := cX9_init) (maxL := 2) (ret := none) (by decide) rfl ?_
  intro p e s m args below meth c s₁ B hml hv
  obtain ⟨rfl, hSt, hP, hz⟩ := hv
  have hx := B.exec
  have hb := B.bytes
  have hr := B.returns
  have hts := atoms_spec (ws := .code yX9_init cX9_init 2 none :: gb_wA) B.pre
  have hq : ∀ w ∈ gb_wA, w.before _ s = true := fun w h => hts w (List.mem_cons_of_mem _ h)
  have hown : s.vm.findClass RX9 = some m.cls := findClass_of_methodNamed B.named
  have hlocks := B.notSynchronized
  have hin : meth.name = "<init>" := (name_of_methodNamed B.named B.method).1
  have hK := hSt.1
  have hS : va_S (gb_ge b) s.heap s.heap [] := va_S.rf
  have hl := lv_entry ([.ref (b + 0), .int 16]) (n := 2) (Nat.le_of_ble_eq_true rfl)
  rw [lg_entry_eq]
  generalize (lg_sl ([.ref (b + 0), .int 16]) ++ List.replicate (2 - (lg_sl ([.ref (b + 0), .int 16])).length) Slot.unset).toArray = ls at hl ⊢
  have hl : lv_has ls 2 [(0, .ref (b + 0)), (1, .int 16)] := hl
  refine lv_aload_n hx hb dX9_init_0 rfl (lv_at hl 0 rfl) ?_
  refine W.objInit hx hb hown (hq _ w_45) (hq _ w_28) (hq _ w_29) rfl (by rw [hml]; exact hl.1) rfl dX9_init_1 (Nat.le_of_ble_eq_true rfl) (Nat.le_of_ble_eq_true rfl) ?_
  refine W.eq (g2 := F0 m 4 ls []) rfl ?_
  refine lv_aload_n hx hb dX9_init_4 rfl (lv_at hl 0 rfl) ?_
  refine lv_iconst (v := 1) hx hb dX9_init_5 (by decide) ?_
  refine lv_iload_n hx hb dX9_init_6 rfl (lv_at hl 1 rfl) ?_
  refine va_mmax hx hb (hml.trans hl.1.symm) hown (hq _ w_46) (hq _ w_47) (hq _ w_5) (hq _ w_48) (Nat.le_of_ble_eq_true rfl) (Nat.le_of_ble_eq_true rfl) (Nat.le_of_ble_eq_true rfl) (Nat.le_of_ble_eq_true rfl) dX9_init_7 ?_
  refine W.eq (g2 := F0 m 10 ls [.int 16, .ref (b + 0)]) (congrArg (fun v => F0 m 10 ls (Value.int v :: [.ref (b + 0)])) (by decide)) ?_
  refine gb_newa (atype := .int) (a0 := (16, .inl (fun _ => 0))) hx hb (hq _ w_59) (ty := .int) rfl hK hP hS 1 hz rfl 0 rfl (fun h => h) (fun _ => rfl) (by decide) (by decide) (Nat.le_of_ble_eq_true rfl) (Nat.le_of_ble_eq_true rfl) (Nat.le_of_ble_eq_true rfl) dX9_init_10 (fun H hP hz hS => ?_)
  have hP : va_P D vwCl (gb_wl b [.inr (1, [.int 0, .int 0, .int 0, .null]), .inl (cT 0, 16, .inl (fun _ => 0))]) H := hP
  refine W.widen (k := 1) (n := 16) (Nat.le_of_ble_eq_true rfl) (Nat.le_of_ble_eq_true rfl) ?_
  refine gb_putF (ci := 1) (v := (.ref (b + 1))) (ty := .array .int) (C := RX1) (T := TX1) (N := 4) hx hb hq i_X1 tyX1 tyX1_ok nmX1 hown hK hP (fun k _ => Nat.le_add_right b k) hS hz 0 rfl rfl 3 (by decide) (hq _ w_51) (fun _ h9 => h9) rfl hin rfl (by decide +kernel) rfl rfl (Nat.le_of_ble_eq_true rfl) dX9_init_12 (fun H locs hP hz hS => ?_)
  have hP : va_P D vwCl (gb_wl b [.inr (1, [.int 0, .int 0, .int 0, .ref (b + 1)]), .inl (cT 0, 16, .inl (fun _ => 0))]) H := hP
  exact W.vret hx hb hr (fun t ht hW => gb_rv ht ⟨hP, hz⟩ hS) hS.2.2 dX9_init_15
set_option maxHeartbeats 4000000 in
set_option maxRecDepth 100000 in
theorem k_X4_init_3 (l : Launch) (D : va_G) (cT : Nat → ClassId) (tt : Nat → Nat) (b1 b : Nat) (hb1 : b1 ≤ b) : Met l yX4_init (.code yX4_init cX4_init 4 none :: gb_wA) ({ frames := 2, cells := 1, slots := 16, locals := 35 }) (gb_Pc D cT tt b1 [.ref (b + 0), .int 5, .int 2, .int 17] (fun h => va_P D vwCl (gb_wl b [.inr (1, [.int 0, .int 0, .int 0, .null])]) h ∧ Array.size h = b + 1)) (gb_Qv (fun h => va_P D vwCl (gb_wl b [.inr (1, [.int 5, .int 2, .int 17, .ref (b + 1)]), .inl (cT 0, 16, .inl (fun _ => 0))]) h ∧ Array.size h = b + 2) (gb_ge b)) 1 16 (gb_ge b) := by
  refine Met.ofW (cc := cX4_init) (maxL := 4) (ret := none) (by decide) rfl ?_
  intro p e s m args below meth c s₁ B hml hv
  obtain ⟨rfl, hSt, hP, hz⟩ := hv
  have hx := B.exec
  have hb := B.bytes
  have hr := B.returns
  have hts := atoms_spec (ws := .code yX4_init cX4_init 4 none :: gb_wA) B.pre
  have hq : ∀ w ∈ gb_wA, w.before _ s = true := fun w h => hts w (List.mem_cons_of_mem _ h)
  have hown : s.vm.findClass RX4 = some m.cls := findClass_of_methodNamed B.named
  have hlocks := B.notSynchronized
  have hin : meth.name = "<init>" := (name_of_methodNamed B.named B.method).1
  have hK := hSt.1
  have hS : va_S (gb_ge b) s.heap s.heap [] := va_S.rf
  have hl := lv_entry ([.ref (b + 0), .int 5, .int 2, .int 17]) (n := 4) (Nat.le_of_ble_eq_true rfl)
  rw [lg_entry_eq]
  generalize (lg_sl ([.ref (b + 0), .int 5, .int 2, .int 17]) ++ List.replicate (4 - (lg_sl ([.ref (b + 0), .int 5, .int 2, .int 17])).length) Slot.unset).toArray = ls at hl ⊢
  have hl : lv_has ls 4 [(0, .ref (b + 0)), (1, .int 5), (2, .int 2), (3, .int 17)] := hl
  refine lv_aload_n hx hb dX4_init_0 rfl (lv_at hl 0 rfl) ?_
  refine lv_iconst (v := 1) hx hb dX4_init_1 (by decide) ?_
  refine lv_iload_n hx hb dX4_init_2 rfl (lv_at hl 1 rfl) ?_
  refine lv_iload_n hx hb dX4_init_3 rfl (lv_at hl 2 rfl) ?_
  refine lv_iconst (v := 1) hx hb dX4_init_4 (by decide) ?_
  refine lv_iadd hx hb dX4_init_5 ?_
  refine W.eq (g2 := F0 m 6 ls [.int 3, .int 5, .int 1, .ref (b + 0)]) (congrArg (fun v => F0 m 6 ls (Value.int v :: [.int 5, .int 1, .ref (b + 0)])) (show (2 : Int32) + 1 = 3 by decide)) ?_
  refine lv_imul hx hb dX4_init_6 ?_
  refine W.eq (g2 := F0 m 7 ls [.int 15, .int 1, .ref (b + 0)]) (congrArg (fun v => F0 m 7 ls (Value.int v :: [.int 1, .ref (b + 0)])) (show (5 : Int32) * 3 = 15 by decide)) ?_
  refine lv_iadd hx hb dX4_init_7 ?_
  refine W.eq (g2 := F0 m 8 ls [.int 16, .ref (b + 0)]) (congrArg (fun v => F0 m 8 ls (Value.int v :: [.ref (b + 0)])) (show (1 : Int32) + 15 = 16 by decide)) ?_
  have hPc := gb_drop hP 0 (suf := [.inr (1, [.int 0, .int 0, .int 0, .null])]) rfl rfl
  refine gb_callv (va_runI (As := [.int 16]) (rest := []) ⟨hx, hb, hml, hown, hq⟩ (k_X9_init_4 l D cT tt b1 (b + 0) (Nat.le_trans hb1 (Nat.le_add_right b 0))) (cwI 1 hq (gb_gI w_44) rfl rfl rfl (hq _ w_3) (hq _ w_71) (hq _ w_43) rfl (by decide +kernel) ⟨Nat.le_of_ble_eq_true rfl, Nat.le_of_ble_eq_true rfl⟩) (gb_preS hSt hS (fun q h => Nat.le_trans hb1 h) (show va_P D vwCl (gb_wl (b + 0) [.inr (1, [.int 0, .int 0, .int 0, .null])]) s.heap ∧ Array.size s.heap = b + 0 + 1 from ⟨hPc, hz⟩)) rfl rfl hl.1 rfl (lv_room (Nat.le_of_ble_eq_true rfl)) dX4_init_8 ⟨Nat.le_of_ble_eq_true rfl, Nat.le_of_ble_eq_true rfl⟩) hS (fun q h => Nat.le_trans (Nat.le_add_right b 0) h) (fun q h => Nat.le_trans (Nat.le_add_right b 0) h) (fun H locs hY hk hS => ?_)
  have hP := gb_glue hP 0 (pre := []) rfl rfl hk hY.1
  have hP : va_P D vwCl (gb_wl b [.inr (1, [.int 0, .int 0, .int 0, .ref (b + 1)]), .inl (cT 0, 16, .inl (fun _ => 0))]) H := hP
  have hz : Array.size H = b + 2 := hY.2
  refine W.widen (k := 1) (n := 16) (Nat.le_of_ble_eq_true rfl) (Nat.le_of_ble_eq_true rfl) ?_
  refine lv_aload_n hx hb dX4_init_11 rfl (lv_at hl 0 rfl) ?_
  refine lv_iload_n hx hb dX4_init_12 rfl (lv_at hl 1 rfl) ?_
  refine gb_putF (ci := 1) (v := (.int 5)) (ty := .int) (C := RX1) (T := TX1) (N := 4) hx hb hq i_X1 tyX1 tyX1_ok nmX1 hown hK hP (fun k _ => Nat.le_add_right b k) hS hz 0 rfl rfl 0 (by decide) (hq _ w_72) (fun _ h9 => h9) rfl hin rfl (by decide +kernel) rfl rfl (Nat.le_of_ble_eq_true rfl) dX4_init_13 (fun H locs hP hz hS => ?_)
  have hP : va_P D vwCl (gb_wl b [.inr (1, [.int 5, .int 0, .int 0, .ref (b + 1)]), .inl (cT 0, 16, .inl (fun _ => 0))]) H := hP
  refine lv_aload_n hx hb dX4_init_16 rfl (lv_at hl 0 rfl) ?_
  refine lv_iload_n hx hb dX4_init_17 rfl (lv_at hl 2 rfl) ?_
  refine gb_putF (ci := 1) (v := (.int 2)) (ty := .int) (C := RX1) (T := TX1) (N := 4) hx hb hq i_X1 tyX1 tyX1_ok nmX1 hown hK hP (fun k _ => Nat.le_add_right b k) hS hz 0 rfl rfl 1 (by decide) (hq _ w_73) (fun _ h9 => h9) rfl hin rfl (by decide +kernel) rfl rfl (Nat.le_of_ble_eq_true rfl) dX4_init_18 (fun H locs hP hz hS => ?_)
  have hP : va_P D vwCl (gb_wl b [.inr (1, [.int 5, .int 2, .int 0, .ref (b + 1)]), .inl (cT 0, 16, .inl (fun _ => 0))]) H := hP
  refine lv_aload_n hx hb dX4_init_21 rfl (lv_at hl 0 rfl) ?_
  refine lv_iload_n hx hb dX4_init_22 rfl (lv_at hl 3 rfl) ?_
  refine gb_putF (ci := 1) (v := (.int 17)) (ty := .int) (C := RX1) (T := TX1) (N := 4) hx hb hq i_X1 tyX1 tyX1_ok nmX1 hown hK hP (fun k _ => Nat.le_add_right b k) hS hz 0 rfl rfl 2 (by decide) (hq _ w_77) (fun _ h9 => h9) rfl hin rfl (by decide +kernel) rfl rfl (Nat.le_of_ble_eq_true rfl) dX4_init_23 (fun H locs hP hz hS => ?_)
  have hP : va_P D vwCl (gb_wl b [.inr (1, [.int 5, .int 2, .int 17, .ref (b + 1)]), .inl (cT 0, 16, .inl (fun _ => 0))]) H := hP
  exact W.vret hx hb hr (fun t ht hW => gb_rv ht ⟨hP, hz⟩ hS) hS.2.2 dX4_init_26
theorem w_106 : (Cond.methodLink "GooseBorder$Dawn" (7 : Nat) ({ cls := "GooseBorder$Lines", name := "<init>", desc := "(III)V" } : MethodName)) ∈ gb_wA := gb_t1 106 rfl rfl
theorem dX1_init_11 : decode cX1_init 11 = .ok (.return_, 1) := by decide +kernel
set_option maxHeartbeats 4000000 in
set_option maxRecDepth 100000 in
theorem k_X1_init (l : Launch) (D : va_G) (cT : Nat → ClassId) (tt : Nat → Nat) (b1 b : Nat) (hb1 : b1 ≤ b) : Met l yX1_init (.code yX1_init cX1_init 1 none :: gb_wA) ({ frames := 3, cells := 1, slots := 16, locals := 58 }) (gb_Pc D cT tt b1 [.ref (b + 0)] (fun h => va_P D vwCl (gb_wl b [.inr (1, [.int 0, .int 0, .int 0, .null])]) h ∧ Array.size h = b + 1)) (gb_Qv (fun h => va_P D vwCl (gb_wl b [.inr (1, [.int 5, .int 2, .int 17, .ref (b + 1)]), .inl (cT 0, 16, .inl (fun _ => 0))]) h ∧ Array.size h = b + 2) (gb_ge b)) 1 16 (gb_ge b) := by
  refine Met.ofW (cc := cX1_init) (maxL := 1) (ret := none) (by decide) rfl ?_
  intro p e s m args below meth c s₁ B hml hv
  obtain ⟨rfl, hSt, hP, hz⟩ := hv
  have hx := B.exec
  have hb := B.bytes
  have hr := B.returns
  have hts := atoms_spec (ws := .code yX1_init cX1_init 1 none :: gb_wA) B.pre
  have hq : ∀ w ∈ gb_wA, w.before _ s = true := fun w h => hts w (List.mem_cons_of_mem _ h)
  have hown : s.vm.findClass RX1 = some m.cls := findClass_of_methodNamed B.named
  have hlocks := B.notSynchronized
  have hin : meth.name = "<init>" := (name_of_methodNamed B.named B.method).1
  have hK := hSt.1
  have hS : va_S (gb_ge b) s.heap s.heap [] := va_S.rf
  have hl := lv_entry ([.ref (b + 0)]) (n := 1) (Nat.le_of_ble_eq_true rfl)
  rw [lg_entry_eq]
  generalize (lg_sl ([.ref (b + 0)]) ++ List.replicate (1 - (lg_sl ([.ref (b + 0)])).length) Slot.unset).toArray = ls at hl ⊢
  have hl : lv_has ls 1 [(0, .ref (b + 0))] := hl
  refine lv_aload_n hx hb dX1_init_0 rfl (lv_at hl 0 rfl) ?_
  refine lv_iconst (v := 5) hx hb dX1_init_1 (by decide) ?_
  refine lv_iconst (v := 2) hx hb dX1_init_2 (by decide) ?_
  refine va_getsN hx hb (hSt.2.2.2.1.1.narrow (fun q h => Nat.le_trans hb1 h)) hS hown (va_Nw.use rfl (hSt.2.1 _ gb_n105)) (fun _ h9 => h9) dX1_init_3 ?_
  refine lv_iconst (v := 3) hx hb dX1_init_6 (by decide) ?_
  refine va_ti (v := (.int 17)) hx hb (hSt.2.2.2.1.2.narrow (fun q h => Nat.le_trans hb1 h)) hS (gb_in rfl) rfl dX1_init_7 ?_
  have hPc := gb_drop hP 0 (suf := [.inr (1, [.int 0, .int 0, .int 0, .null])]) rfl rfl
  refine gb_callv (va_runI (As := [.int 5, .int 2, .int 17]) (rest := []) ⟨hx, hb, hml, hown, hq⟩ (k_X4_init_3 l D cT tt b1 (b + 0) (Nat.le_trans hb1 (Nat.le_add_right b 0))) (cwI 3 hq (gb_gI w_70) rfl rfl rfl (hq _ w_6) (hq _ w_106) (hq _ w_69) rfl (by decide +kernel) ⟨Nat.le_of_ble_eq_true rfl, Nat.le_of_ble_eq_true rfl⟩) (gb_preS hSt hS (fun q h => Nat.le_trans hb1 h) (show va_P D vwCl (gb_wl (b + 0) [.inr (1, [.int 0, .int 0, .int 0, .null])]) s.heap ∧ Array.size s.heap = b + 0 + 1 from ⟨hPc, hz⟩)) rfl rfl hl.1 rfl (lv_room (Nat.le_of_ble_eq_true rfl)) dX1_init_8 ⟨Nat.le_of_ble_eq_true rfl, Nat.le_of_ble_eq_true rfl⟩) hS (fun q h => Nat.le_trans (Nat.le_add_right b 0) h) (fun q h => Nat.le_trans (Nat.le_add_right b 0) h) (fun H locs hY hk hS => ?_)
  have hP := gb_glue hP 0 (pre := []) rfl rfl hk hY.1
  have hP : va_P D vwCl (gb_wl b [.inr (1, [.int 5, .int 2, .int 17, .ref (b + 1)]), .inl (cT 0, 16, .inl (fun _ => 0))]) H := hP
  have hz : Array.size H = b + 2 := hY.2
  refine W.widen (k := 1) (n := 16) (Nat.le_of_ble_eq_true rfl) (Nat.le_of_ble_eq_true rfl) ?_
  exact W.vret hx hb hr (fun t ht hW => gb_rv ht ⟨hP, hz⟩ hS) hS.2.2 dX1_init_11
end
