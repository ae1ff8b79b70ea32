section
-- ===== PART A: goes FIRST, ahead of the names: the tables' words, and 'selects' of the private methods out of them =====
/-- a private method of a class that the tables say can be made, by its rows of tables_1 -/
def lw_okq (q : MethodName × Nat) : Prop := (q.1.cls ≠ "java/lang/invoke/MethodHandle" ∧ q.1.cls ≠ "java/lang/invoke/VarHandle") ∧ Cond.instantiable q.1.cls q.2 ∈ tables_1 ∧ Cond.privateMethod q.1 ∈ tables_1 ∧ Cond.instanceMethod q.1 ∈ tables_1
theorem lw_p0 : lw_okq (⟨"OnceOnly", "serverOf", "(I)LOnceOnly$Server;"⟩, 7) := ⟨⟨by decide +kernel, by decide +kernel⟩, List.mem_of_getElem? (i := 11) (by decide +kernel), List.mem_of_getElem? (i := 185) (by decide +kernel), List.mem_of_getElem? (i := 186) (by decide +kernel)⟩
theorem lw_p1 : lw_okq (⟨"OnceOnly", "endOf", "(I)LOnceOnly$End;"⟩, 7) := ⟨⟨by decide +kernel, by decide +kernel⟩, List.mem_of_getElem? (i := 11) (by decide +kernel), List.mem_of_getElem? (i := 198) (by decide +kernel), List.mem_of_getElem? (i := 199) (by decide +kernel)⟩
theorem lw_p2 : lw_okq (⟨"OnceOnly", "newAsk", "(LOnceOnly$End;IIIIII)LOnceOnly$Ask;"⟩, 7) := ⟨⟨by decide +kernel, by decide +kernel⟩, List.mem_of_getElem? (i := 11) (by decide +kernel), List.mem_of_getElem? (i := 203) (by decide +kernel), List.mem_of_getElem? (i := 204) (by decide +kernel)⟩
theorem lw_p3 : lw_okq (⟨"OnceOnly", "sendAsk", "(LOnceOnly$Ask;Z)I"⟩, 7) := ⟨⟨by decide +kernel, by decide +kernel⟩, List.mem_of_getElem? (i := 11) (by decide +kernel), List.mem_of_getElem? (i := 279) (by decide +kernel), List.mem_of_getElem? (i := 280) (by decide +kernel)⟩
theorem lw_p4 : lw_okq (⟨"OnceOnly$Row", "slot", "(I)I"⟩, 5) := ⟨⟨by decide +kernel, by decide +kernel⟩, List.mem_of_getElem? (i := 25) (by decide +kernel), List.mem_of_getElem? (i := 291) (by decide +kernel), List.mem_of_getElem? (i := 292) (by decide +kernel)⟩
theorem lw_p5 : lw_okq (⟨"OnceOnly", "askOf", "(I)LOnceOnly$Ask;"⟩, 7) := ⟨⟨by decide +kernel, by decide +kernel⟩, List.mem_of_getElem? (i := 11) (by decide +kernel), List.mem_of_getElem? (i := 303) (by decide +kernel), List.mem_of_getElem? (i := 304) (by decide +kernel)⟩
theorem lw_p6 : lw_okq (⟨"OnceOnly", "come", "(II)I"⟩, 7) := ⟨⟨by decide +kernel, by decide +kernel⟩, List.mem_of_getElem? (i := 11) (by decide +kernel), List.mem_of_getElem? (i := 333) (by decide +kernel), List.mem_of_getElem? (i := 334) (by decide +kernel)⟩
theorem lw_p7 : lw_okq (⟨"OnceOnly", "serve", "(LOnceOnly$Letter;LOnceOnly$Ask;I)I"⟩, 7) := ⟨⟨by decide +kernel, by decide +kernel⟩, List.mem_of_getElem? (i := 11) (by decide +kernel), List.mem_of_getElem? (i := 342) (by decide +kernel), List.mem_of_getElem? (i := 343) (by decide +kernel)⟩
theorem lw_p8 : lw_okq (⟨"OnceOnly", "memoryOf", "(II)LOnceOnly$Memory;"⟩, 7) := ⟨⟨by decide +kernel, by decide +kernel⟩, List.mem_of_getElem? (i := 11) (by decide +kernel), List.mem_of_getElem? (i := 346) (by decide +kernel), List.mem_of_getElem? (i := 347) (by decide +kernel)⟩
theorem lw_p9 : lw_okq (⟨"OnceOnly", "sendOver", "(LOnceOnly$Ask;Z)I"⟩, 7) := ⟨⟨by decide +kernel, by decide +kernel⟩, List.mem_of_getElem? (i := 11) (by decide +kernel), List.mem_of_getElem? (i := 354) (by decide +kernel), List.mem_of_getElem? (i := 355) (by decide +kernel)⟩
theorem lw_p10 : lw_okq (⟨"OnceOnly$Memory", "forget", "(I)V"⟩, 6) := ⟨⟨by decide +kernel, by decide +kernel⟩, List.mem_of_getElem? (i := 122) (by decide +kernel), List.mem_of_getElem? (i := 371) (by decide +kernel), List.mem_of_getElem? (i := 372) (by decide +kernel)⟩
theorem lw_p11 : lw_okq (⟨"OnceOnly", "act", "(LOnceOnly$Server;LOnceOnly$Memory;LOnceOnly$Ask;Z)I"⟩, 7) := ⟨⟨by decide +kernel, by decide +kernel⟩, List.mem_of_getElem? (i := 11) (by decide +kernel), List.mem_of_getElem? (i := 388) (by decide +kernel), List.mem_of_getElem? (i := 389) (by decide +kernel)⟩
theorem lw_p12 : lw_okq (⟨"OnceOnly", "sendAnswer", "(LOnceOnly$Ask;JZ)I"⟩, 7) := ⟨⟨by decide +kernel, by decide +kernel⟩, List.mem_of_getElem? (i := 11) (by decide +kernel), List.mem_of_getElem? (i := 396) (by decide +kernel), List.mem_of_getElem? (i := 397) (by decide +kernel)⟩
theorem lw_p13 : lw_okq (⟨"OnceOnly", "beginFar", "(LOnceOnly$Server;LOnceOnly$Memory;LOnceOnly$Ask;)LOnceOnly$Ask;"⟩, 7) := ⟨⟨by decide +kernel, by decide +kernel⟩, List.mem_of_getElem? (i := 11) (by decide +kernel), List.mem_of_getElem? (i := 401) (by decide +kernel), List.mem_of_getElem? (i := 402) (by decide +kernel)⟩
theorem lw_p14 : lw_okq (⟨"OnceOnly", "add", "(LOnceOnly$Server;LOnceOnly$Ask;)J"⟩, 7) := ⟨⟨by decide +kernel, by decide +kernel⟩, List.mem_of_getElem? (i := 11) (by decide +kernel), List.mem_of_getElem? (i := 420) (by decide +kernel), List.mem_of_getElem? (i := 421) (by decide +kernel)⟩
theorem lw_p15 : lw_okq (⟨"OnceOnly", "move", "(LOnceOnly$Server;LOnceOnly$Ask;)J"⟩, 7) := ⟨⟨by decide +kernel, by decide +kernel⟩, List.mem_of_getElem? (i := 11) (by decide +kernel), List.mem_of_getElem? (i := 424) (by decide +kernel), List.mem_of_getElem? (i := 425) (by decide +kernel)⟩
def lw_privs_1 : List (MethodName × Nat) := [(⟨"OnceOnly", "serverOf", "(I)LOnceOnly$Server;"⟩, 7), (⟨"OnceOnly", "endOf", "(I)LOnceOnly$End;"⟩, 7), (⟨"OnceOnly", "newAsk", "(LOnceOnly$End;IIIIII)LOnceOnly$Ask;"⟩, 7), (⟨"OnceOnly", "sendAsk", "(LOnceOnly$Ask;Z)I"⟩, 7), (⟨"OnceOnly$Row", "slot", "(I)I"⟩, 5), (⟨"OnceOnly", "askOf", "(I)LOnceOnly$Ask;"⟩, 7), (⟨"OnceOnly", "come", "(II)I"⟩, 7), (⟨"OnceOnly", "serve", "(LOnceOnly$Letter;LOnceOnly$Ask;I)I"⟩, 7), (⟨"OnceOnly", "memoryOf", "(II)LOnceOnly$Memory;"⟩, 7), (⟨"OnceOnly", "sendOver", "(LOnceOnly$Ask;Z)I"⟩, 7), (⟨"OnceOnly$Memory", "forget", "(I)V"⟩, 6), (⟨"OnceOnly", "act", "(LOnceOnly$Server;LOnceOnly$Memory;LOnceOnly$Ask;Z)I"⟩, 7), (⟨"OnceOnly", "sendAnswer", "(LOnceOnly$Ask;JZ)I"⟩, 7), (⟨"OnceOnly", "beginFar", "(LOnceOnly$Server;LOnceOnly$Memory;LOnceOnly$Ask;)LOnceOnly$Ask;"⟩, 7), (⟨"OnceOnly", "add", "(LOnceOnly$Server;LOnceOnly$Ask;)J"⟩, 7), (⟨"OnceOnly", "move", "(LOnceOnly$Server;LOnceOnly$Ask;)J"⟩, 7)]
theorem lw_r1 : ∀ q ∈ lw_privs_1, lw_okq q := List.forall_mem_cons.mpr ⟨lw_p0, List.forall_mem_cons.mpr ⟨lw_p1, List.forall_mem_cons.mpr ⟨lw_p2, List.forall_mem_cons.mpr ⟨lw_p3, List.forall_mem_cons.mpr ⟨lw_p4, List.forall_mem_cons.mpr ⟨lw_p5, List.forall_mem_cons.mpr ⟨lw_p6, List.forall_mem_cons.mpr ⟨lw_p7, List.forall_mem_cons.mpr ⟨lw_p8, List.forall_mem_cons.mpr ⟨lw_p9, List.forall_mem_cons.mpr ⟨lw_p10, List.forall_mem_cons.mpr ⟨lw_p11, List.forall_mem_cons.mpr ⟨lw_p12, List.forall_mem_cons.mpr ⟨lw_p13, List.forall_mem_cons.mpr ⟨lw_p14, List.forall_mem_cons.mpr ⟨lw_p15, fun _ h => absurd h List.not_mem_nil⟩⟩⟩⟩⟩⟩⟩⟩⟩⟩⟩⟩⟩⟩⟩⟩
theorem lw_p16 : lw_okq (⟨"OnceOnly", "cancel", "(LOnceOnly$Memory;LOnceOnly$Ask;)J"⟩, 7) := ⟨⟨by decide +kernel, by decide +kernel⟩, List.mem_of_getElem? (i := 11) (by decide +kernel), List.mem_of_getElem? (i := 428) (by decide +kernel), List.mem_of_getElem? (i := 429) (by decide +kernel)⟩
theorem lw_p17 : lw_okq (⟨"OnceOnly", "remind", "(LOnceOnly$Ask;Z)I"⟩, 7) := ⟨⟨by decide +kernel, by decide +kernel⟩, List.mem_of_getElem? (i := 11) (by decide +kernel), List.mem_of_getElem? (i := 436) (by decide +kernel), List.mem_of_getElem? (i := 437) (by decide +kernel)⟩
theorem lw_p18 : lw_okq (⟨"OnceOnly", "hear", "(LOnceOnly$Letter;LOnceOnly$Ask;)V"⟩, 7) := ⟨⟨by decide +kernel, by decide +kernel⟩, List.mem_of_getElem? (i := 11) (by decide +kernel), List.mem_of_getElem? (i := 444) (by decide +kernel), List.mem_of_getElem? (i := 445) (by decide +kernel)⟩
theorem lw_p19 : lw_okq (⟨"OnceOnly", "finishFar", "(LOnceOnly$Letter;LOnceOnly$Ask;I)I"⟩, 7) := ⟨⟨by decide +kernel, by decide +kernel⟩, List.mem_of_getElem? (i := 11) (by decide +kernel), List.mem_of_getElem? (i := 452) (by decide +kernel), List.mem_of_getElem? (i := 453) (by decide +kernel)⟩
theorem lw_p20 : lw_okq (⟨"OnceOnly", "bringDown", "(LOnceOnly$End;)V"⟩, 7) := ⟨⟨by decide +kernel, by decide +kernel⟩, List.mem_of_getElem? (i := 11) (by decide +kernel), List.mem_of_getElem? (i := 456) (by decide +kernel), List.mem_of_getElem? (i := 457) (by decide +kernel)⟩
theorem lw_p21 : lw_okq (⟨"OnceOnly", "sumOfAccounts", "()J"⟩, 7) := ⟨⟨by decide +kernel, by decide +kernel⟩, List.mem_of_getElem? (i := 11) (by decide +kernel), List.mem_of_getElem? (i := 525) (by decide +kernel), List.mem_of_getElem? (i := 526) (by decide +kernel)⟩
theorem lw_p22 : lw_okq (⟨"OnceOnly", "sumUnderWay", "()J"⟩, 7) := ⟨⟨by decide +kernel, by decide +kernel⟩, List.mem_of_getElem? (i := 11) (by decide +kernel), List.mem_of_getElem? (i := 530) (by decide +kernel), List.mem_of_getElem? (i := 531) (by decide +kernel)⟩
theorem lw_p23 : lw_okq (⟨"OnceOnly", "sumOfAdds", "()J"⟩, 7) := ⟨⟨by decide +kernel, by decide +kernel⟩, List.mem_of_getElem? (i := 11) (by decide +kernel), List.mem_of_getElem? (i := 534) (by decide +kernel), List.mem_of_getElem? (i := 535) (by decide +kernel)⟩
theorem lw_p24 : lw_okq (⟨"OnceOnly", "openAsks", "()I"⟩, 7) := ⟨⟨by decide +kernel, by decide +kernel⟩, List.mem_of_getElem? (i := 11) (by decide +kernel), List.mem_of_getElem? (i := 556) (by decide +kernel), List.mem_of_getElem? (i := 557) (by decide +kernel)⟩
theorem lw_p25 : lw_okq (⟨"OnceOnly", "allRecords", "()I"⟩, 7) := ⟨⟨by decide +kernel, by decide +kernel⟩, List.mem_of_getElem? (i := 11) (by decide +kernel), List.mem_of_getElem? (i := 560) (by decide +kernel), List.mem_of_getElem? (i := 561) (by decide +kernel)⟩
theorem lw_p26 : lw_okq (⟨"OnceOnlyModel", "isUsedUp", "(I)Z"⟩, 40) := ⟨⟨by decide +kernel, by decide +kernel⟩, List.mem_of_getElem? (i := 568) (by decide +kernel), List.mem_of_getElem? (i := 710) (by decide +kernel), List.mem_of_getElem? (i := 711) (by decide +kernel)⟩
theorem lw_p27 : lw_okq (⟨"OnceOnlyModel", "lowest", "(I)I"⟩, 40) := ⟨⟨by decide +kernel, by decide +kernel⟩, List.mem_of_getElem? (i := 568) (by decide +kernel), List.mem_of_getElem? (i := 714) (by decide +kernel), List.mem_of_getElem? (i := 715) (by decide +kernel)⟩
theorem lw_p28 : lw_okq (⟨"OnceOnlyModel", "newAsk", "(IIIIIIII)I"⟩, 40) := ⟨⟨by decide +kernel, by decide +kernel⟩, List.mem_of_getElem? (i := 568) (by decide +kernel), List.mem_of_getElem? (i := 719) (by decide +kernel), List.mem_of_getElem? (i := 720) (by decide +kernel)⟩
theorem lw_p29 : lw_okq (⟨"OnceOnlyModel", "send", "(IZJ)V"⟩, 40) := ⟨⟨by decide +kernel, by decide +kernel⟩, List.mem_of_getElem? (i := 568) (by decide +kernel), List.mem_of_getElem? (i := 723) (by decide +kernel), List.mem_of_getElem? (i := 724) (by decide +kernel)⟩
theorem lw_p30 : lw_okq (⟨"OnceOnlyModel", "isAsk", "(I)Z"⟩, 40) := ⟨⟨by decide +kernel, by decide +kernel⟩, List.mem_of_getElem? (i := 568) (by decide +kernel), List.mem_of_getElem? (i := 731) (by decide +kernel), List.mem_of_getElem? (i := 732) (by decide +kernel)⟩
theorem lw_p31 : lw_okq (⟨"OnceOnlyModel", "isLetter", "(I)Z"⟩, 40) := ⟨⟨by decide +kernel, by decide +kernel⟩, List.mem_of_getElem? (i := 568) (by decide +kernel), List.mem_of_getElem? (i := 755) (by decide +kernel), List.mem_of_getElem? (i := 756) (by decide +kernel)⟩
def lw_privs_2 : List (MethodName × Nat) := [(⟨"OnceOnly", "cancel", "(LOnceOnly$Memory;LOnceOnly$Ask;)J"⟩, 7), (⟨"OnceOnly", "remind", "(LOnceOnly$Ask;Z)I"⟩, 7), (⟨"OnceOnly", "hear", "(LOnceOnly$Letter;LOnceOnly$Ask;)V"⟩, 7), (⟨"OnceOnly", "finishFar", "(LOnceOnly$Letter;LOnceOnly$Ask;I)I"⟩, 7), (⟨"OnceOnly", "bringDown", "(LOnceOnly$End;)V"⟩, 7), (⟨"OnceOnly", "sumOfAccounts", "()J"⟩, 7), (⟨"OnceOnly", "sumUnderWay", "()J"⟩, 7), (⟨"OnceOnly", "sumOfAdds", "()J"⟩, 7), (⟨"OnceOnly", "openAsks", "()I"⟩, 7), (⟨"OnceOnly", "allRecords", "()I"⟩, 7), (⟨"OnceOnlyModel", "isUsedUp", "(I)Z"⟩, 40), (⟨"OnceOnlyModel", "lowest", "(I)I"⟩, 40), (⟨"OnceOnlyModel", "newAsk", "(IIIIIIII)I"⟩, 40), (⟨"OnceOnlyModel", "send", "(IZJ)V"⟩, 40), (⟨"OnceOnlyModel", "isAsk", "(I)Z"⟩, 40), (⟨"OnceOnlyModel", "isLetter", "(I)Z"⟩, 40)]
theorem lw_r2 : ∀ q ∈ lw_privs_2, lw_okq q := List.forall_mem_cons.mpr ⟨lw_p16, List.forall_mem_cons.mpr ⟨lw_p17, List.forall_mem_cons.mpr ⟨lw_p18, List.forall_mem_cons.mpr ⟨lw_p19, List.forall_mem_cons.mpr ⟨lw_p20, List.forall_mem_cons.mpr ⟨lw_p21, List.forall_mem_cons.mpr ⟨lw_p22, List.forall_mem_cons.mpr ⟨lw_p23, List.forall_mem_cons.mpr ⟨lw_p24, List.forall_mem_cons.mpr ⟨lw_p25, List.forall_mem_cons.mpr ⟨lw_p26, List.forall_mem_cons.mpr ⟨lw_p27, List.forall_mem_cons.mpr ⟨lw_p28, List.forall_mem_cons.mpr ⟨lw_p29, List.forall_mem_cons.mpr ⟨lw_p30, List.forall_mem_cons.mpr ⟨lw_p31, fun _ h => absurd h List.not_mem_nil⟩⟩⟩⟩⟩⟩⟩⟩⟩⟩⟩⟩⟩⟩⟩⟩
theorem lw_p32 : lw_okq (⟨"OnceOnlyModel", "brings", "(II)V"⟩, 40) := ⟨⟨by decide +kernel, by decide +kernel⟩, List.mem_of_getElem? (i := 568) (by decide +kernel), List.mem_of_getElem? (i := 759) (by decide +kernel), List.mem_of_getElem? (i := 760) (by decide +kernel)⟩
theorem lw_p33 : lw_okq (⟨"OnceOnlyModel", "removeLetter", "(I)V"⟩, 40) := ⟨⟨by decide +kernel, by decide +kernel⟩, List.mem_of_getElem? (i := 568) (by decide +kernel), List.mem_of_getElem? (i := 764) (by decide +kernel), List.mem_of_getElem? (i := 765) (by decide +kernel)⟩
theorem lw_p34 : lw_okq (⟨"OnceOnlyModel", "comes", "(IZIJZI)V"⟩, 40) := ⟨⟨by decide +kernel, by decide +kernel⟩, List.mem_of_getElem? (i := 568) (by decide +kernel), List.mem_of_getElem? (i := 768) (by decide +kernel), List.mem_of_getElem? (i := 769) (by decide +kernel)⟩
theorem lw_p35 : lw_okq (⟨"OnceOnlyModel", "work", "(IIIZ)V"⟩, 40) := ⟨⟨by decide +kernel, by decide +kernel⟩, List.mem_of_getElem? (i := 568) (by decide +kernel), List.mem_of_getElem? (i := 772) (by decide +kernel), List.mem_of_getElem? (i := 773) (by decide +kernel)⟩
theorem lw_p36 : lw_okq (⟨"OnceOnlyModel", "forget", "(II)I"⟩, 40) := ⟨⟨by decide +kernel, by decide +kernel⟩, List.mem_of_getElem? (i := 568) (by decide +kernel), List.mem_of_getElem? (i := 777) (by decide +kernel), List.mem_of_getElem? (i := 778) (by decide +kernel)⟩
theorem lw_p37 : lw_okq (⟨"OnceOnlyModel", "findRecord", "(II)I"⟩, 40) := ⟨⟨by decide +kernel, by decide +kernel⟩, List.mem_of_getElem? (i := 568) (by decide +kernel), List.mem_of_getElem? (i := 781) (by decide +kernel), List.mem_of_getElem? (i := 782) (by decide +kernel)⟩
theorem lw_p38 : lw_okq (⟨"OnceOnlyModel", "cancel", "(II)V"⟩, 40) := ⟨⟨by decide +kernel, by decide +kernel⟩, List.mem_of_getElem? (i := 568) (by decide +kernel), List.mem_of_getElem? (i := 786) (by decide +kernel), List.mem_of_getElem? (i := 787) (by decide +kernel)⟩
theorem lw_p39 : lw_okq (⟨"OnceOnlyModel", "putRecord", "(IIIJI)V"⟩, 40) := ⟨⟨by decide +kernel, by decide +kernel⟩, List.mem_of_getElem? (i := 568) (by decide +kernel), List.mem_of_getElem? (i := 790) (by decide +kernel), List.mem_of_getElem? (i := 791) (by decide +kernel)⟩
theorem lw_p40 : lw_okq (⟨"OnceOnlyModel", "done", "(IIJ)V"⟩, 40) := ⟨⟨by decide +kernel, by decide +kernel⟩, List.mem_of_getElem? (i := 568) (by decide +kernel), List.mem_of_getElem? (i := 794) (by decide +kernel), List.mem_of_getElem? (i := 795) (by decide +kernel)⟩
theorem lw_p41 : lw_okq (⟨"OnceOnlyModel", "change", "(IIII)V"⟩, 40) := ⟨⟨by decide +kernel, by decide +kernel⟩, List.mem_of_getElem? (i := 568) (by decide +kernel), List.mem_of_getElem? (i := 798) (by decide +kernel), List.mem_of_getElem? (i := 799) (by decide +kernel)⟩
theorem lw_p42 : lw_okq (⟨"OnceOnlyModel", "mayBe", "(J)Z"⟩, 40) := ⟨⟨by decide +kernel, by decide +kernel⟩, List.mem_of_getElem? (i := 568) (by decide +kernel), List.mem_of_getElem? (i := 802) (by decide +kernel), List.mem_of_getElem? (i := 803) (by decide +kernel)⟩
theorem lw_p43 : lw_okq (⟨"OnceOnlyModel", "through", "(IIJ)V"⟩, 40) := ⟨⟨by decide +kernel, by decide +kernel⟩, List.mem_of_getElem? (i := 568) (by decide +kernel), List.mem_of_getElem? (i := 808) (by decide +kernel), List.mem_of_getElem? (i := 809) (by decide +kernel)⟩
theorem lw_p44 : lw_okq (⟨"OnceOnlyModel", "recordsOf", "(I)I"⟩, 40) := ⟨⟨by decide +kernel, by decide +kernel⟩, List.mem_of_getElem? (i := 568) (by decide +kernel), List.mem_of_getElem? (i := 852) (by decide +kernel), List.mem_of_getElem? (i := 853) (by decide +kernel)⟩
theorem lw_p45 : lw_okq (⟨"OnceOnlyModel", "witnessOf", "(I)J"⟩, 40) := ⟨⟨by decide +kernel, by decide +kernel⟩, List.mem_of_getElem? (i := 568) (by decide +kernel), List.mem_of_getElem? (i := 876) (by decide +kernel), List.mem_of_getElem? (i := 877) (by decide +kernel)⟩
def lw_privs_3 : List (MethodName × Nat) := [(⟨"OnceOnlyModel", "brings", "(II)V"⟩, 40), (⟨"OnceOnlyModel", "removeLetter", "(I)V"⟩, 40), (⟨"OnceOnlyModel", "comes", "(IZIJZI)V"⟩, 40), (⟨"OnceOnlyModel", "work", "(IIIZ)V"⟩, 40), (⟨"OnceOnlyModel", "forget", "(II)I"⟩, 40), (⟨"OnceOnlyModel", "findRecord", "(II)I"⟩, 40), (⟨"OnceOnlyModel", "cancel", "(II)V"⟩, 40), (⟨"OnceOnlyModel", "putRecord", "(IIIJI)V"⟩, 40), (⟨"OnceOnlyModel", "done", "(IIJ)V"⟩, 40), (⟨"OnceOnlyModel", "change", "(IIII)V"⟩, 40), (⟨"OnceOnlyModel", "mayBe", "(J)Z"⟩, 40), (⟨"OnceOnlyModel", "through", "(IIJ)V"⟩, 40), (⟨"OnceOnlyModel", "recordsOf", "(I)I"⟩, 40), (⟨"OnceOnlyModel", "witnessOf", "(I)J"⟩, 40)]
theorem lw_r3 : ∀ q ∈ lw_privs_3, lw_okq q := List.forall_mem_cons.mpr ⟨lw_p32, List.forall_mem_cons.mpr ⟨lw_p33, List.forall_mem_cons.mpr ⟨lw_p34, List.forall_mem_cons.mpr ⟨lw_p35, List.forall_mem_cons.mpr ⟨lw_p36, List.forall_mem_cons.mpr ⟨lw_p37, List.forall_mem_cons.mpr ⟨lw_p38, List.forall_mem_cons.mpr ⟨lw_p39, List.forall_mem_cons.mpr ⟨lw_p40, List.forall_mem_cons.mpr ⟨lw_p41, List.forall_mem_cons.mpr ⟨lw_p42, List.forall_mem_cons.mpr ⟨lw_p43, List.forall_mem_cons.mpr ⟨lw_p44, List.forall_mem_cons.mpr ⟨lw_p45, fun _ h => absurd h List.not_mem_nil⟩⟩⟩⟩⟩⟩⟩⟩⟩⟩⟩⟩⟩⟩
def lw_privs : List (MethodName × Nat) := lw_privs_1 ++ (lw_privs_2 ++ (lw_privs_3))
def lw_tbl : List Cond := k2_sels lw_privs ++ tables_1
theorem lw_privs_ok : ∀ q ∈ lw_privs, lw_okq q := by
  show ∀ q ∈ lw_privs_1 ++ (lw_privs_2 ++ (lw_privs_3)), lw_okq q
  exact List.forall_mem_append.mpr ⟨lw_r1, List.forall_mem_append.mpr ⟨lw_r2, lw_r3⟩⟩
end
section
def RX0 : String := "OnceOnly$Ask"
def TX0 : u_T := fun k => match k with
  | 0 => ("OnceOnly$Ask", "id", "I", true)
  | 1 => ("OnceOnly$Ask", "name", "I", true)
  | 2 => ("OnceOnly$Ask", "life", "I", true)
  | 3 => ("OnceOnly$Ask", "number", "I", true)
  | 4 => ("OnceOnly$Ask", "server", "I", false)
  | 5 => ("OnceOnly$Ask", "kind", "I", false)
  | 6 => ("OnceOnly$Ask", "a", "I", false)
  | 7 => ("OnceOnly$Ask", "b", "I", false)
  | 8 => ("OnceOnly$Ask", "t", "I", false)
  | 9 => ("OnceOnly$Ask", "amount", "I", false)
  | 10 => ("OnceOnly$Ask", "state", "I", false)
  | 11 => ("OnceOnly$Ask", "answer", "J", false)
  | 12 => ("OnceOnly$Ask", "done", "Z", false)
  | 13 => ("OnceOnly$Ask", "far", "LOnceOnly$Ask;", false)
  | _ => ("OnceOnly$Ask", "own", "LOnceOnly$Ask;", false)
def tyX0 : Nat → FieldType := fun k => match k with
  | 0 => .int
  | 1 => .int
  | 2 => .int
  | 3 => .int
  | 4 => .int
  | 5 => .int
  | 6 => .int
  | 7 => .int
  | 8 => .int
  | 9 => .int
  | 10 => .int
  | 11 => .long
  | 12 => .boolean
  | 13 => .object "OnceOnly$Ask"
  | _ => .object "OnceOnly$Ask"
abbrev wsX00 : List Cond := u_ws RX0 TX0 15
theorem nmX0 : ∀ a, a < 15 → ∀ b, b < 15 → a ≠ b → (TX0 a).2.1 ≠ (TX0 b).2.1 := by decide +kernel
theorem tyX0_ok : ∀ k, k < 15 → parseFieldDescriptor (TX0 k).2.2.1 = some (tyX0 k) := by decide +kernel
abbrev cX0_init : ByteArray := prog_2_method_1_code
def yX0_init : MethodName := ⟨RX0, "<init>", "(IIII)V"⟩
abbrev cX0_close : ByteArray := prog_2_method_2_code
def yX0_close : MethodName := ⟨RX0, "close", "(J)V"⟩
abbrev cX0_seal : ByteArray := prog_2_method_3_code
def yX0_seal : MethodName := ⟨RX0, "seal", "()J"⟩
def RX1 : String := "OnceOnly$End"
def TX1 : u_T := fun k => match k with
  | 0 => ("OnceOnly$End", "name", "I", true)
  | 1 => ("OnceOnly$End", "up", "Z", false)
  | 2 => ("OnceOnly$End", "life", "I", false)
  | 3 => ("OnceOnly$End", "next", "I", false)
  | 4 => ("OnceOnly$End", "lowest", "I", false)
  | _ => ("OnceOnly$End", "asked", "[LOnceOnly$Ask;", true)
def tyX1 : Nat → FieldType := fun k => match k with
  | 0 => .int
  | 1 => .boolean
  | 2 => .int
  | 3 => .int
  | 4 => .int
  | _ => .array (.object "OnceOnly$Ask")
abbrev wsX10 : List Cond := u_ws RX1 TX1 6
theorem nmX1 : ∀ a, a < 6 → ∀ b, b < 6 → a ≠ b → (TX1 a).2.1 ≠ (TX1 b).2.1 := by decide +kernel
theorem tyX1_ok : ∀ k, k < 6 → parseFieldDescriptor (TX1 k).2.2.1 = some (tyX1 k) := by decide +kernel
abbrev cX1_init : ByteArray := prog_3_method_1_code
def yX1_init : MethodName := ⟨RX1, "<init>", "(I)V"⟩
abbrev cX1_lowestOpen : ByteArray := prog_3_method_2_code
def yX1_lowestOpen : MethodName := ⟨RX1, "lowestOpen", "()I"⟩
abbrev cX1_keep : ByteArray := prog_3_method_3_code
def yX1_keep : MethodName := ⟨RX1, "keep", "(LOnceOnly$Ask;)V"⟩
abbrev cX1_beginLife : ByteArray := prog_3_method_4_code
def yX1_beginLife : MethodName := ⟨RX1, "beginLife", "()V"⟩
abbrev cX1_isOpen : ByteArray := prog_3_method_5_code
def yX1_isOpen : MethodName := ⟨RX1, "isOpen", "(LOnceOnly$Ask;)Z"⟩
def RX2 : String := "OnceOnly$Letter"
def TX2 : u_T := fun k => match k with
  | 0 => ("OnceOnly$Letter", "ask", "LOnceOnly$Ask;", false)
  | 1 => ("OnceOnly$Letter", "reply", "Z", false)
  | 2 => ("OnceOnly$Letter", "over", "Z", false)
  | 3 => ("OnceOnly$Letter", "bent", "Z", false)
  | 4 => ("OnceOnly$Letter", "lowest", "I", false)
  | _ => ("OnceOnly$Letter", "answer", "J", false)
def tyX2 : Nat → FieldType := fun k => match k with
  | 0 => .object "OnceOnly$Ask"
  | 1 => .boolean
  | 2 => .boolean
  | 3 => .boolean
  | 4 => .int
  | _ => .long
abbrev wsX20 : List Cond := u_ws RX2 TX2 6
theorem nmX2 : ∀ a, a < 6 → ∀ b, b < 6 → a ≠ b → (TX2 a).2.1 ≠ (TX2 b).2.1 := by decide +kernel
theorem tyX2_ok : ∀ k, k < 6 → parseFieldDescriptor (TX2 k).2.2.1 = some (tyX2 k) := by decide +kernel
abbrev cX2_init : ByteArray := prog_4_method_1_code
def yX2_init : MethodName := ⟨RX2, "<init>", "()V"⟩
abbrev cX2_asks : ByteArray := prog_4_method_2_code
def yX2_asks : MethodName := ⟨RX2, "asks", "(LOnceOnly$Ask;I)V"⟩
abbrev cX2_replies : ByteArray := prog_4_method_3_code
def yX2_replies : MethodName := ⟨RX2, "replies", "(LOnceOnly$Ask;J)V"⟩
abbrev cX2_refuses : ByteArray := prog_4_method_4_code
def yX2_refuses : MethodName := ⟨RX2, "refuses", "(LOnceOnly$Ask;)V"⟩
abbrev cX2_become : ByteArray := prog_4_method_5_code
def yX2_become : MethodName := ⟨RX2, "become", "(LOnceOnly$Letter;)V"⟩
def RX3 : String := "OnceOnly$Memory"
def TX3 : u_T := fun k => match k with
  | 0 => ("OnceOnly$Memory", "window", "I", true)
  | 1 => ("OnceOnly$Memory", "life", "I", false)
  | 2 => ("OnceOnly$Memory", "low", "I", false)
  | 3 => ("OnceOnly$Memory", "records", "I", false)
  | 4 => ("OnceOnly$Memory", "states", "[I", true)
  | _ => ("OnceOnly$Memory", "answers", "[J", true)
def tyX3 : Nat → FieldType := fun k => match k with
  | 0 => .int
  | 1 => .int
  | 2 => .int
  | 3 => .int
  | 4 => .array .int
  | _ => .array .long
abbrev wsX30 : List Cond := u_ws RX3 TX3 6
theorem nmX3 : ∀ a, a < 6 → ∀ b, b < 6 → a ≠ b → (TX3 a).2.1 ≠ (TX3 b).2.1 := by decide +kernel
theorem tyX3_ok : ∀ k, k < 6 → parseFieldDescriptor (TX3 k).2.2.1 = some (tyX3 k) := by decide +kernel
abbrev cX3_init : ByteArray := prog_5_method_1_code
def yX3_init : MethodName := ⟨RX3, "<init>", "(I)V"⟩
abbrev cX3_isWithin : ByteArray := prog_5_method_2_code
def yX3_isWithin : MethodName := ⟨RX3, "isWithin", "(I)Z"⟩
abbrev cX3_stateOf : ByteArray := prog_5_method_3_code
def yX3_stateOf : MethodName := ⟨RX3, "stateOf", "(I)I"⟩
abbrev cX3_answerOf : ByteArray := prog_5_method_4_code
def yX3_answerOf : MethodName := ⟨RX3, "answerOf", "(I)J"⟩
abbrev cX3_write : ByteArray := prog_5_method_5_code
def yX3_write : MethodName := ⟨RX3, "write", "(IIJ)V"⟩
abbrev cX3_raiseLow : ByteArray := prog_5_method_6_code
def yX3_raiseLow : MethodName := ⟨RX3, "raiseLow", "(I)V"⟩
abbrev cX3_beginLife : ByteArray := prog_5_method_7_code
def yX3_beginLife : MethodName := ⟨RX3, "beginLife", "(I)V"⟩
abbrev cX3_hasMidst : ByteArray := prog_5_method_8_code
def yX3_hasMidst : MethodName := ⟨RX3, "hasMidst", "()Z"⟩
abbrev cX3_forget : ByteArray := prog_5_method_9_code
def yX3_forget : MethodName := ⟨RX3, "forget", "(I)V"⟩
def RX4 : String := "OnceOnly$Row"
def TX4 : u_T := fun k => match k with
  | 0 => ("OnceOnly$Row", "under", "I", false)
  | 1 => ("OnceOnly$Row", "came", "I", false)
  | 2 => ("OnceOnly$Row", "lost", "I", false)
  | 3 => ("OnceOnly$Row", "first", "I", false)
  | _ => ("OnceOnly$Row", "ring", "[LOnceOnly$Letter;", true)
def tyX4 : Nat → FieldType := fun k => match k with
  | 0 => .int
  | 1 => .int
  | 2 => .int
  | 3 => .int
  | _ => .array (.object "OnceOnly$Letter")
abbrev wsX40 : List Cond := u_ws RX4 TX4 5
theorem nmX4 : ∀ a, a < 5 → ∀ b, b < 5 → a ≠ b → (TX4 a).2.1 ≠ (TX4 b).2.1 := by decide +kernel
theorem tyX4_ok : ∀ k, k < 5 → parseFieldDescriptor (TX4 k).2.2.1 = some (tyX4 k) := by decide +kernel
abbrev cX4_init : ByteArray := prog_6_method_1_code
def yX4_init : MethodName := ⟨RX4, "<init>", "()V"⟩
abbrev cX4_isFull : ByteArray := prog_6_method_2_code
def yX4_isFull : MethodName := ⟨RX4, "isFull", "()Z"⟩
abbrev cX4_at : ByteArray := prog_6_method_3_code
def yX4_at : MethodName := ⟨RX4, "at", "(I)LOnceOnly$Letter;"⟩
abbrev cX4_fresh : ByteArray := prog_6_method_4_code
def yX4_fresh : MethodName := ⟨RX4, "fresh", "()LOnceOnly$Letter;"⟩
abbrev cX4_take : ByteArray := prog_6_method_5_code
def yX4_take : MethodName := ⟨RX4, "take", "(I)LOnceOnly$Letter;"⟩
abbrev cX4_slot : ByteArray := prog_6_method_6_code
def yX4_slot : MethodName := ⟨RX4, "slot", "(I)I"⟩
def RX5 : String := "OnceOnly$Server"
def TX5 : u_T := fun k => match k with
  | 0 => ("OnceOnly$Server", "accounts", "[J", true)
  | _ => ("OnceOnly$Server", "memories", "[LOnceOnly$Memory;", true)
def tyX5 : Nat → FieldType := fun k => match k with
  | 0 => .array .long
  | _ => .array (.object "OnceOnly$Memory")
abbrev wsX50 : List Cond := u_ws RX5 TX5 2
theorem nmX5 : ∀ a, a < 2 → ∀ b, b < 2 → a ≠ b → (TX5 a).2.1 ≠ (TX5 b).2.1 := by decide +kernel
theorem tyX5_ok : ∀ k, k < 2 → parseFieldDescriptor (TX5 k).2.2.1 = some (tyX5 k) := by decide +kernel
abbrev cX5_init : ByteArray := prog_7_method_1_code
def yX5_init : MethodName := ⟨RX5, "<init>", "(I)V"⟩
abbrev cX5_memoryOf : ByteArray := prog_7_method_2_code
def yX5_memoryOf : MethodName := ⟨RX5, "memoryOf", "(I)LOnceOnly$Memory;"⟩
abbrev cX5_has : ByteArray := prog_7_method_3_code
def yX5_has : MethodName := ⟨RX5, "has", "(I)J"⟩
abbrev cX5_lets : ByteArray := prog_7_method_4_code
def yX5_lets : MethodName := ⟨RX5, "lets", "(IJ)Z"⟩
abbrev cX5_change : ByteArray := prog_7_method_5_code
def yX5_change : MethodName := ⟨RX5, "change", "(IJ)V"⟩
def RX6 : String := "OnceOnly"
def TX6 : u_T := fun k => match k with
  | 0 => ("OnceOnly", "window", "I", true)
  | 1 => ("OnceOnly", "ends", "[LOnceOnly$End;", true)
  | 2 => ("OnceOnly", "servers", "[LOnceOnly$Server;", true)
  | 3 => ("OnceOnly", "asks", "[LOnceOnly$Ask;", true)
  | 4 => ("OnceOnly", "row", "LOnceOnly$Row;", true)
  | 5 => ("OnceOnly", "askCount", "I", false)
  | _ => ("OnceOnly", "fallCount", "I", false)
def tyX6 : Nat → FieldType := fun k => match k with
  | 0 => .int
  | 1 => .array (.object "OnceOnly$End")
  | 2 => .array (.object "OnceOnly$Server")
  | 3 => .array (.object "OnceOnly$Ask")
  | 4 => .object "OnceOnly$Row"
  | 5 => .int
  | _ => .int
abbrev wsX60 : List Cond := u_ws RX6 TX6 7
theorem nmX6 : ∀ a, a < 7 → ∀ b, b < 7 → a ≠ b → (TX6 a).2.1 ≠ (TX6 b).2.1 := by decide +kernel
theorem tyX6_ok : ∀ k, k < 7 → parseFieldDescriptor (TX6 k).2.2.1 = some (tyX6 k) := by decide +kernel
abbrev cX6_init : ByteArray := prog_1_method_1_code
def yX6_init : MethodName := ⟨RX6, "<init>", "(I)V"⟩
abbrev cX6_ask : ByteArray := prog_1_method_2_code
def yX6_ask : MethodName := ⟨RX6, "ask", "(IIIIIII)I"⟩
abbrev cX6_again : ByteArray := prog_1_method_3_code
def yX6_again : MethodName := ⟨RX6, "again", "(I)I"⟩
abbrev cX6_told : ByteArray := prog_1_method_4_code
def yX6_told : MethodName := ⟨RX6, "told", "(II)I"⟩
abbrev cX6_answer : ByteArray := prog_1_method_5_code
def yX6_answer : MethodName := ⟨RX6, "answer", "(I)J"⟩
abbrev cX6_name : ByteArray := prog_1_method_6_code
def yX6_name : MethodName := ⟨RX6, "name", "(II)I"⟩
abbrev cX6_deliver : ByteArray := prog_1_method_7_code
def yX6_deliver : MethodName := ⟨RX6, "deliver", "(II)I"⟩
abbrev cX6_lose : ByteArray := prog_1_method_8_code
def yX6_lose : MethodName := ⟨RX6, "lose", "(I)I"⟩
abbrev cX6_twice : ByteArray := prog_1_method_9_code
def yX6_twice : MethodName := ⟨RX6, "twice", "(I)I"⟩
abbrev cX6_bend : ByteArray := prog_1_method_10_code
def yX6_bend : MethodName := ⟨RX6, "bend", "(I)I"⟩
abbrev cX6_letter : ByteArray := prog_1_method_11_code
def yX6_letter : MethodName := ⟨RX6, "letter", "(II)I"⟩
abbrev cX6_flow : ByteArray := prog_1_method_12_code
def yX6_flow : MethodName := ⟨RX6, "flow", "(I)I"⟩
abbrev cX6_fall : ByteArray := prog_1_method_13_code
def yX6_fall : MethodName := ⟨RX6, "fall", "(I)I"⟩
abbrev cX6_rise : ByteArray := prog_1_method_14_code
def yX6_rise : MethodName := ⟨RX6, "rise", "(I)I"⟩
abbrev cX6_account : ByteArray := prog_1_method_15_code
def yX6_account : MethodName := ⟨RX6, "account", "(II)J"⟩
abbrev cX6_kept : ByteArray := prog_1_method_16_code
def yX6_kept : MethodName := ⟨RX6, "kept", "(III)I"⟩
abbrev cX6_record : ByteArray := prog_1_method_17_code
def yX6_record : MethodName := ⟨RX6, "record", "(III)I"⟩
abbrev cX6_leave : ByteArray := prog_1_method_18_code
def yX6_leave : MethodName := ⟨RX6, "leave", "(II)I"⟩
abbrev cX6_times : ByteArray := prog_1_method_19_code
def yX6_times : MethodName := ⟨RX6, "times", "(I)I"⟩
abbrev cX6_audit : ByteArray := prog_1_method_20_code
def yX6_audit : MethodName := ⟨RX6, "audit", "(I)J"⟩
abbrev cX6_witness : ByteArray := prog_1_method_21_code
def yX6_witness : MethodName := ⟨RX6, "witness", "(I)J"⟩
abbrev cX6_check : ByteArray := prog_1_method_22_code
def yX6_check : MethodName := ⟨RX6, "check", "(IJ)I"⟩
abbrev cX6_count : ByteArray := prog_1_method_23_code
def yX6_count : MethodName := ⟨RX6, "count", "(I)I"⟩
abbrev cX6_endOf : ByteArray := prog_1_method_24_code
def yX6_endOf : MethodName := ⟨RX6, "endOf", "(I)LOnceOnly$End;"⟩
abbrev cX6_serverOf : ByteArray := prog_1_method_25_code
def yX6_serverOf : MethodName := ⟨RX6, "serverOf", "(I)LOnceOnly$Server;"⟩
abbrev cX6_askOf : ByteArray := prog_1_method_26_code
def yX6_askOf : MethodName := ⟨RX6, "askOf", "(I)LOnceOnly$Ask;"⟩
abbrev cX6_memoryOf : ByteArray := prog_1_method_27_code
def yX6_memoryOf : MethodName := ⟨RX6, "memoryOf", "(II)LOnceOnly$Memory;"⟩
abbrev cX6_idOf : ByteArray := prog_1_method_28_code
def yX6_idOf : MethodName := ⟨RX6, "idOf", "(LOnceOnly$Ask;)I"⟩
abbrev cX6_isAccount : ByteArray := prog_1_method_29_code
def yX6_isAccount : MethodName := ⟨RX6, "isAccount", "(I)Z"⟩
abbrev cX6_isAmount : ByteArray := prog_1_method_30_code
def yX6_isAmount : MethodName := ⟨RX6, "isAmount", "(II)Z"⟩
abbrev cX6_newAsk : ByteArray := prog_1_method_31_code
def yX6_newAsk : MethodName := ⟨RX6, "newAsk", "(LOnceOnly$End;IIIIII)LOnceOnly$Ask;"⟩
abbrev cX6_sendAsk : ByteArray := prog_1_method_32_code
def yX6_sendAsk : MethodName := ⟨RX6, "sendAsk", "(LOnceOnly$Ask;Z)I"⟩
abbrev cX6_sendAnswer : ByteArray := prog_1_method_33_code
def yX6_sendAnswer : MethodName := ⟨RX6, "sendAnswer", "(LOnceOnly$Ask;JZ)I"⟩
abbrev cX6_sendOver : ByteArray := prog_1_method_34_code
def yX6_sendOver : MethodName := ⟨RX6, "sendOver", "(LOnceOnly$Ask;Z)I"⟩
abbrev cX6_come : ByteArray := prog_1_method_35_code
def yX6_come : MethodName := ⟨RX6, "come", "(II)I"⟩
abbrev cX6_hear : ByteArray := prog_1_method_36_code
def yX6_hear : MethodName := ⟨RX6, "hear", "(LOnceOnly$Letter;LOnceOnly$Ask;)V"⟩
abbrev cX6_serve : ByteArray := prog_1_method_37_code
def yX6_serve : MethodName := ⟨RX6, "serve", "(LOnceOnly$Letter;LOnceOnly$Ask;I)I"⟩
abbrev cX6_remind : ByteArray := prog_1_method_38_code
def yX6_remind : MethodName := ⟨RX6, "remind", "(LOnceOnly$Ask;Z)I"⟩
abbrev cX6_act : ByteArray := prog_1_method_39_code
def yX6_act : MethodName := ⟨RX6, "act", "(LOnceOnly$Server;LOnceOnly$Memory;LOnceOnly$Ask;Z)I"⟩
abbrev cX6_add : ByteArray := prog_1_method_40_code
def yX6_add : MethodName := ⟨RX6, "add", "(LOnceOnly$Server;LOnceOnly$Ask;)J"⟩
abbrev cX6_move : ByteArray := prog_1_method_41_code
def yX6_move : MethodName := ⟨RX6, "move", "(LOnceOnly$Server;LOnceOnly$Ask;)J"⟩
abbrev cX6_cancel : ByteArray := prog_1_method_42_code
def yX6_cancel : MethodName := ⟨RX6, "cancel", "(LOnceOnly$Memory;LOnceOnly$Ask;)J"⟩
abbrev cX6_beginFar : ByteArray := prog_1_method_43_code
def yX6_beginFar : MethodName := ⟨RX6, "beginFar", "(LOnceOnly$Server;LOnceOnly$Memory;LOnceOnly$Ask;)LOnceOnly$Ask;"⟩
abbrev cX6_finishFar : ByteArray := prog_1_method_44_code
def yX6_finishFar : MethodName := ⟨RX6, "finishFar", "(LOnceOnly$Letter;LOnceOnly$Ask;I)I"⟩
abbrev cX6_bringDown : ByteArray := prog_1_method_45_code
def yX6_bringDown : MethodName := ⟨RX6, "bringDown", "(LOnceOnly$End;)V"⟩
abbrev cX6_sumOfAccounts : ByteArray := prog_1_method_46_code
def yX6_sumOfAccounts : MethodName := ⟨RX6, "sumOfAccounts", "()J"⟩
abbrev cX6_sumUnderWay : ByteArray := prog_1_method_47_code
def yX6_sumUnderWay : MethodName := ⟨RX6, "sumUnderWay", "()J"⟩
abbrev cX6_sumOfAdds : ByteArray := prog_1_method_48_code
def yX6_sumOfAdds : MethodName := ⟨RX6, "sumOfAdds", "()J"⟩
abbrev cX6_openAsks : ByteArray := prog_1_method_49_code
def yX6_openAsks : MethodName := ⟨RX6, "openAsks", "()I"⟩
abbrev cX6_allRecords : ByteArray := prog_1_method_50_code
def yX6_allRecords : MethodName := ⟨RX6, "allRecords", "()I"⟩
def RX7 : String := "OnceOnlyModel"
def TX7 : u_T := fun k => match k with
  | 0 => ("OnceOnlyModel", "window", "I", true)
  | 1 => ("OnceOnlyModel", "isDown", "[Z", true)
  | 2 => ("OnceOnlyModel", "life", "[I", true)
  | 3 => ("OnceOnlyModel", "nextNumber", "[I", true)
  | 4 => ("OnceOnlyModel", "account", "[J", true)
  | 5 => ("OnceOnlyModel", "asks", "I", false)
  | 6 => ("OnceOnlyModel", "askName", "[I", true)
  | 7 => ("OnceOnlyModel", "askLife", "[I", true)
  | 8 => ("OnceOnlyModel", "askNumber", "[I", true)
  | 9 => ("OnceOnlyModel", "askServer", "[I", true)
  | 10 => ("OnceOnlyModel", "askKind", "[I", true)
  | 11 => ("OnceOnlyModel", "askA", "[I", true)
  | 12 => ("OnceOnlyModel", "askB", "[I", true)
  | 13 => ("OnceOnlyModel", "askT", "[I", true)
  | 14 => ("OnceOnlyModel", "askAmount", "[I", true)
  | 15 => ("OnceOnlyModel", "askState", "[I", true)
  | 16 => ("OnceOnlyModel", "askAnswer", "[J", true)
  | 17 => ("OnceOnlyModel", "askFor", "[I", true)
  | 18 => ("OnceOnlyModel", "askOwn", "[I", true)
  | 19 => ("OnceOnlyModel", "isDone", "[Z", true)
  | 20 => ("OnceOnlyModel", "letters", "I", false)
  | 21 => ("OnceOnlyModel", "letterAsk", "[I", true)
  | 22 => ("OnceOnlyModel", "isAnswer", "[Z", true)
  | 23 => ("OnceOnlyModel", "letterLowest", "[I", true)
  | 24 => ("OnceOnlyModel", "letterAnswer", "[J", true)
  | 25 => ("OnceOnlyModel", "isBent", "[Z", true)
  | 26 => ("OnceOnlyModel", "keptLife", "[I", true)
  | 27 => ("OnceOnlyModel", "low", "[I", true)
  | 28 => ("OnceOnlyModel", "records", "I", false)
  | 29 => ("OnceOnlyModel", "recordOf", "[I", true)
  | 30 => ("OnceOnlyModel", "recordNumber", "[I", true)
  | 31 => ("OnceOnlyModel", "recordState", "[I", true)
  | 32 => ("OnceOnlyModel", "recordAnswer", "[J", true)
  | 33 => ("OnceOnlyModel", "recordOwn", "[I", true)
  | 34 => ("OnceOnlyModel", "came", "I", false)
  | 35 => ("OnceOnlyModel", "lost", "I", false)
  | 36 => ("OnceOnlyModel", "falls", "I", false)
  | 37 => ("OnceOnlyModel", "isSilent", "Z", false)
  | 38 => ("OnceOnlyModel", "leaving", "I", false)
  | _ => ("OnceOnlyModel", "letterOver", "Z", false)
def tyX7 : Nat → FieldType := fun k => match k with
  | 0 => .int
  | 1 => .array .boolean
  | 2 => .array .int
  | 3 => .array .int
  | 4 => .array .long
  | 5 => .int
  | 6 => .array .int
  | 7 => .array .int
  | 8 => .array .int
  | 9 => .array .int
  | 10 => .array .int
  | 11 => .array .int
  | 12 => .array .int
  | 13 => .array .int
  | 14 => .array .int
  | 15 => .array .int
  | 16 => .array .long
  | 17 => .array .int
  | 18 => .array .int
  | 19 => .array .boolean
  | 20 => .int
  | 21 => .array .int
  | 22 => .array .boolean
  | 23 => .array .int
  | 24 => .array .long
  | 25 => .array .boolean
  | 26 => .array .int
  | 27 => .array .int
  | 28 => .int
  | 29 => .array .int
  | 30 => .array .int
  | 31 => .array .int
  | 32 => .array .long
  | 33 => .array .int
  | 34 => .int
  | 35 => .int
  | 36 => .int
  | 37 => .boolean
  | 38 => .int
  | _ => .boolean
abbrev wsX70 : List Cond := u_ws RX7 TX7 40
theorem nmX7 : ∀ a, a < 40 → ∀ b, b < 40 → a ≠ b → (TX7 a).2.1 ≠ (TX7 b).2.1 := by decide +kernel
theorem tyX7_ok : ∀ k, k < 40 → parseFieldDescriptor (TX7 k).2.2.1 = some (tyX7 k) := by decide +kernel
abbrev cX7_init : ByteArray := prog_9_method_1_code
def yX7_init : MethodName := ⟨RX7, "<init>", "(I)V"⟩
abbrev cX7_in : ByteArray := prog_9_method_2_code
def yX7_in : MethodName := ⟨RX7, "in", "(JJJ)Z"⟩
abbrev cX7_isAsk : ByteArray := prog_9_method_3_code
def yX7_isAsk : MethodName := ⟨RX7, "isAsk", "(I)Z"⟩
abbrev cX7_lowest : ByteArray := prog_9_method_4_code
def yX7_lowest : MethodName := ⟨RX7, "lowest", "(I)I"⟩
abbrev cX7_isUsedUp : ByteArray := prog_9_method_5_code
def yX7_isUsedUp : MethodName := ⟨RX7, "isUsedUp", "(I)Z"⟩
abbrev cX7_send : ByteArray := prog_9_method_6_code
def yX7_send : MethodName := ⟨RX7, "send", "(IZJ)V"⟩
abbrev cX7_newAsk : ByteArray := prog_9_method_7_code
def yX7_newAsk : MethodName := ⟨RX7, "newAsk", "(IIIIIIII)I"⟩
abbrev cX7_ask : ByteArray := prog_9_method_8_code
def yX7_ask : MethodName := ⟨RX7, "ask", "(IIIIIII)I"⟩
abbrev cX7_again : ByteArray := prog_9_method_9_code
def yX7_again : MethodName := ⟨RX7, "again", "(I)I"⟩
abbrev cX7_told : ByteArray := prog_9_method_10_code
def yX7_told : MethodName := ⟨RX7, "told", "(II)I"⟩
abbrev cX7_answer : ByteArray := prog_9_method_11_code
def yX7_answer : MethodName := ⟨RX7, "answer", "(I)J"⟩
abbrev cX7_name : ByteArray := prog_9_method_12_code
def yX7_name : MethodName := ⟨RX7, "name", "(II)I"⟩
abbrev cX7_findRecord : ByteArray := prog_9_method_13_code
def yX7_findRecord : MethodName := ⟨RX7, "findRecord", "(II)I"⟩
abbrev cX7_putRecord : ByteArray := prog_9_method_14_code
def yX7_putRecord : MethodName := ⟨RX7, "putRecord", "(IIIJI)V"⟩
abbrev cX7_forget : ByteArray := prog_9_method_15_code
def yX7_forget : MethodName := ⟨RX7, "forget", "(II)I"⟩
abbrev cX7_mayBe : ByteArray := prog_9_method_16_code
def yX7_mayBe : MethodName := ⟨RX7, "mayBe", "(J)Z"⟩
abbrev cX7_done : ByteArray := prog_9_method_17_code
def yX7_done : MethodName := ⟨RX7, "done", "(IIJ)V"⟩
abbrev cX7_work : ByteArray := prog_9_method_18_code
def yX7_work : MethodName := ⟨RX7, "work", "(IIIZ)V"⟩
abbrev cX7_cancel : ByteArray := prog_9_method_19_code
def yX7_cancel : MethodName := ⟨RX7, "cancel", "(II)V"⟩
abbrev cX7_change : ByteArray := prog_9_method_20_code
def yX7_change : MethodName := ⟨RX7, "change", "(IIII)V"⟩
abbrev cX7_through : ByteArray := prog_9_method_21_code
def yX7_through : MethodName := ⟨RX7, "through", "(IIJ)V"⟩
abbrev cX7_comes : ByteArray := prog_9_method_22_code
def yX7_comes : MethodName := ⟨RX7, "comes", "(IZIJZI)V"⟩
abbrev cX7_removeLetter : ByteArray := prog_9_method_23_code
def yX7_removeLetter : MethodName := ⟨RX7, "removeLetter", "(I)V"⟩
abbrev cX7_brings : ByteArray := prog_9_method_24_code
def yX7_brings : MethodName := ⟨RX7, "brings", "(II)V"⟩
abbrev cX7_isLetter : ByteArray := prog_9_method_25_code
def yX7_isLetter : MethodName := ⟨RX7, "isLetter", "(I)Z"⟩
abbrev cX7_deliver : ByteArray := prog_9_method_26_code
def yX7_deliver : MethodName := ⟨RX7, "deliver", "(II)I"⟩
abbrev cX7_lose : ByteArray := prog_9_method_27_code
def yX7_lose : MethodName := ⟨RX7, "lose", "(I)I"⟩
abbrev cX7_twice : ByteArray := prog_9_method_28_code
def yX7_twice : MethodName := ⟨RX7, "twice", "(I)I"⟩
abbrev cX7_bend : ByteArray := prog_9_method_29_code
def yX7_bend : MethodName := ⟨RX7, "bend", "(I)I"⟩
abbrev cX7_letter : ByteArray := prog_9_method_30_code
def yX7_letter : MethodName := ⟨RX7, "letter", "(II)I"⟩
abbrev cX7_flow : ByteArray := prog_9_method_31_code
def yX7_flow : MethodName := ⟨RX7, "flow", "(I)I"⟩
abbrev cX7_fall : ByteArray := prog_9_method_32_code
def yX7_fall : MethodName := ⟨RX7, "fall", "(I)I"⟩
abbrev cX7_rise : ByteArray := prog_9_method_33_code
def yX7_rise : MethodName := ⟨RX7, "rise", "(I)I"⟩
abbrev cX7_isServer : ByteArray := prog_9_method_34_code
def yX7_isServer : MethodName := ⟨RX7, "isServer", "(I)Z"⟩
abbrev cX7_account : ByteArray := prog_9_method_35_code
def yX7_account : MethodName := ⟨RX7, "account", "(II)J"⟩
abbrev cX7_recordsOf : ByteArray := prog_9_method_36_code
def yX7_recordsOf : MethodName := ⟨RX7, "recordsOf", "(I)I"⟩
abbrev cX7_kept : ByteArray := prog_9_method_37_code
def yX7_kept : MethodName := ⟨RX7, "kept", "(III)I"⟩
abbrev cX7_record : ByteArray := prog_9_method_38_code
def yX7_record : MethodName := ⟨RX7, "record", "(III)I"⟩
abbrev cX7_leave : ByteArray := prog_9_method_39_code
def yX7_leave : MethodName := ⟨RX7, "leave", "(II)I"⟩
abbrev cX7_times : ByteArray := prog_9_method_40_code
def yX7_times : MethodName := ⟨RX7, "times", "(I)I"⟩
abbrev cX7_audit : ByteArray := prog_9_method_41_code
def yX7_audit : MethodName := ⟨RX7, "audit", "(I)J"⟩
abbrev cX7_witnessOf : ByteArray := prog_9_method_42_code
def yX7_witnessOf : MethodName := ⟨RX7, "witnessOf", "(I)J"⟩
abbrev cX7_witness : ByteArray := prog_9_method_43_code
def yX7_witness : MethodName := ⟨RX7, "witness", "(I)J"⟩
abbrev cX7_check : ByteArray := prog_9_method_44_code
def yX7_check : MethodName := ⟨RX7, "check", "(IJ)I"⟩
abbrev cX7_count : ByteArray := prog_9_method_45_code
def yX7_count : MethodName := ⟨RX7, "count", "(I)I"⟩
def RJ9 : String := "java/lang/Math"
def TJ9 : u_T := fun k => match k with
  | _ => ("", "", "", false)
def tyJ9 : Nat → FieldType := fun k => match k with
  | _ => .int
abbrev cJ9_max_7cf53 : ByteArray := prog_10_method_65_code
def yJ9_max_7cf53 : MethodName := ⟨RJ9, "max", "(II)I"⟩
abbrev cJ9_min_7cf53 : ByteArray := prog_10_method_69_code
def yJ9_min_7cf53 : MethodName := ⟨RJ9, "min", "(II)I"⟩
def RL : String := "OnceOnlyLaw"
abbrev cL_cell : ByteArray := method_2_code
def yL_cell : MethodName := ⟨RL, "cell", "([II)I"⟩
abbrev cL_law : ByteArray := code
def yL_law : MethodName := ⟨RL, "law", "([I)Z"⟩
abbrev vwCl : List vw_C := [(RX0, TX0, 15), (RX1, TX1, 6), (RX2, TX2, 6), (RX3, TX3, 6), (RX4, TX4, 5), (RX5, TX5, 2), (RX6, TX6, 7), (RX7, TX7, 40)]
end
section
theorem dX0_init_0 : decode cX0_init 0 = .ok (.aload_n 0, 1) := by decide +kernel
theorem dX0_init_1 : decode cX0_init 1 = .ok (.invokespecial 3, 3) := by decide +kernel
theorem dX0_init_4 : decode cX0_init 4 = .ok (.aload_n 0, 1) := by decide +kernel
theorem dX0_init_5 : decode cX0_init 5 = .ok (.iconst 0, 1) := by decide +kernel
theorem dX0_init_6 : decode cX0_init 6 = .ok (.putfield 9, 3) := by decide +kernel
theorem dX0_init_9 : decode cX0_init 9 = .ok (.aload_n 0, 1) := by decide +kernel
theorem dX0_init_10 : decode cX0_init 10 = .ok (.iload_n 1, 1) := by decide +kernel
theorem dX0_init_11 : decode cX0_init 11 = .ok (.putfield 15, 3) := by decide +kernel
theorem dX0_init_14 : decode cX0_init 14 = .ok (.aload_n 0, 1) := by decide +kernel
theorem dX0_init_15 : decode cX0_init 15 = .ok (.iload_n 2, 1) := by decide +kernel
theorem dX0_init_16 : decode cX0_init 16 = .ok (.putfield 18, 3) := by decide +kernel
theorem dX0_init_19 : decode cX0_init 19 = .ok (.aload_n 0, 1) := by decide +kernel
theorem dX0_init_20 : decode cX0_init 20 = .ok (.iload_n 3, 1) := by decide +kernel
theorem dX0_init_21 : decode cX0_init 21 = .ok (.putfield 21, 3) := by decide +kernel
theorem dX0_init_24 : decode cX0_init 24 = .ok (.aload_n 0, 1) := by decide +kernel
theorem dX0_init_25 : decode cX0_init 25 = .ok (.iload 4, 2) := by decide +kernel
theorem dX0_init_27 : decode cX0_init 27 = .ok (.putfield 24, 3) := by decide +kernel
theorem dX0_init_30 : decode cX0_init 30 = .ok (.return_, 1) := by decide +kernel
theorem dX0_close_0 : decode cX0_close 0 = .ok (.aload_n 0, 1) := by decide +kernel
theorem dX0_close_1 : decode cX0_close 1 = .ok (.iconst 1, 1) := by decide +kernel
theorem dX0_close_2 : decode cX0_close 2 = .ok (.putfield 9, 3) := by decide +kernel
theorem dX0_close_5 : decode cX0_close 5 = .ok (.aload_n 0, 1) := by decide +kernel
theorem dX0_close_6 : decode cX0_close 6 = .ok (.lload_n 1, 1) := by decide +kernel
theorem dX0_close_7 : decode cX0_close 7 = .ok (.putfield 27, 3) := by decide +kernel
theorem dX0_close_10 : decode cX0_close 10 = .ok (.return_, 1) := by decide +kernel
theorem dX0_seal_0 : decode cX0_seal 0 = .ok (.ldc2_w 31, 3) := by decide +kernel
theorem dX0_seal_3 : decode cX0_seal 3 = .ok (.lstore_n 1, 1) := by decide +kernel
theorem dX0_seal_4 : decode cX0_seal 4 = .ok (.ldc2_w 33, 3) := by decide +kernel
theorem dX0_seal_7 : decode cX0_seal 7 = .ok (.lload_n 1, 1) := by decide +kernel
theorem dX0_seal_8 : decode cX0_seal 8 = .ok (.lmul, 1) := by decide +kernel
theorem dX0_seal_9 : decode cX0_seal 9 = .ok (.aload_n 0, 1) := by decide +kernel
theorem dX0_seal_10 : decode cX0_seal 10 = .ok (.getfield 18, 3) := by decide +kernel
theorem dX0_seal_13 : decode cX0_seal 13 = .ok (.i2l, 1) := by decide +kernel
theorem dX0_seal_14 : decode cX0_seal 14 = .ok (.ladd, 1) := by decide +kernel
theorem dX0_seal_15 : decode cX0_seal 15 = .ok (.lstore_n 1, 1) := by decide +kernel
theorem dX0_seal_16 : decode cX0_seal 16 = .ok (.ldc2_w 33, 3) := by decide +kernel
theorem dX0_seal_19 : decode cX0_seal 19 = .ok (.lload_n 1, 1) := by decide +kernel
theorem dX0_seal_20 : decode cX0_seal 20 = .ok (.lmul, 1) := by decide +kernel
theorem dX0_seal_21 : decode cX0_seal 21 = .ok (.aload_n 0, 1) := by decide +kernel
theorem dX0_seal_22 : decode cX0_seal 22 = .ok (.getfield 21, 3) := by decide +kernel
theorem dX0_seal_25 : decode cX0_seal 25 = .ok (.i2l, 1) := by decide +kernel
theorem dX0_seal_26 : decode cX0_seal 26 = .ok (.ladd, 1) := by decide +kernel
theorem dX0_seal_27 : decode cX0_seal 27 = .ok (.lstore_n 1, 1) := by decide +kernel
theorem dX0_seal_28 : decode cX0_seal 28 = .ok (.ldc2_w 33, 3) := by decide +kernel
theorem dX0_seal_31 : decode cX0_seal 31 = .ok (.lload_n 1, 1) := by decide +kernel
theorem dX0_seal_32 : decode cX0_seal 32 = .ok (.lmul, 1) := by decide +kernel
theorem dX0_seal_33 : decode cX0_seal 33 = .ok (.aload_n 0, 1) := by decide +kernel
theorem dX0_seal_34 : decode cX0_seal 34 = .ok (.getfield 24, 3) := by decide +kernel
theorem dX0_seal_37 : decode cX0_seal 37 = .ok (.i2l, 1) := by decide +kernel
theorem dX0_seal_38 : decode cX0_seal 38 = .ok (.ladd, 1) := by decide +kernel
theorem dX0_seal_39 : decode cX0_seal 39 = .ok (.lstore_n 1, 1) := by decide +kernel
theorem dX0_seal_40 : decode cX0_seal 40 = .ok (.ldc2_w 33, 3) := by decide +kernel
theorem dX0_seal_43 : decode cX0_seal 43 = .ok (.lload_n 1, 1) := by decide +kernel
theorem dX0_seal_44 : decode cX0_seal 44 = .ok (.lmul, 1) := by decide +kernel
theorem dX0_seal_45 : decode cX0_seal 45 = .ok (.aload_n 0, 1) := by decide +kernel
theorem dX0_seal_46 : decode cX0_seal 46 = .ok (.getfield 35, 3) := by decide +kernel
theorem dX0_seal_49 : decode cX0_seal 49 = .ok (.i2l, 1) := by decide +kernel
theorem dX0_seal_50 : decode cX0_seal 50 = .ok (.ladd, 1) := by decide +kernel
theorem dX0_seal_51 : decode cX0_seal 51 = .ok (.lstore_n 1, 1) := by decide +kernel
theorem dX0_seal_52 : decode cX0_seal 52 = .ok (.ldc2_w 33, 3) := by decide +kernel
theorem dX0_seal_55 : decode cX0_seal 55 = .ok (.lload_n 1, 1) := by decide +kernel
theorem dX0_seal_56 : decode cX0_seal 56 = .ok (.lmul, 1) := by decide +kernel
theorem dX0_seal_57 : decode cX0_seal 57 = .ok (.aload_n 0, 1) := by decide +kernel
theorem dX0_seal_58 : decode cX0_seal 58 = .ok (.getfield 38, 3) := by decide +kernel
theorem dX0_seal_61 : decode cX0_seal 61 = .ok (.i2l, 1) := by decide +kernel
theorem dX0_seal_62 : decode cX0_seal 62 = .ok (.ladd, 1) := by decide +kernel
theorem dX0_seal_63 : decode cX0_seal 63 = .ok (.lstore_n 1, 1) := by decide +kernel
theorem dX0_seal_64 : decode cX0_seal 64 = .ok (.ldc2_w 33, 3) := by decide +kernel
theorem dX0_seal_67 : decode cX0_seal 67 = .ok (.lload_n 1, 1) := by decide +kernel
theorem dX0_seal_68 : decode cX0_seal 68 = .ok (.lmul, 1) := by decide +kernel
theorem dX0_seal_69 : decode cX0_seal 69 = .ok (.aload_n 0, 1) := by decide +kernel
theorem dX0_seal_70 : decode cX0_seal 70 = .ok (.getfield 27, 3) := by decide +kernel
theorem dX0_seal_73 : decode cX0_seal 73 = .ok (.ladd, 1) := by decide +kernel
theorem dX0_seal_74 : decode cX0_seal 74 = .ok (.lreturn, 1) := by decide +kernel
theorem dX1_init_0 : decode cX1_init 0 = .ok (.aload_n 0, 1) := by decide +kernel
theorem dX1_init_1 : decode cX1_init 1 = .ok (.invokespecial 3, 3) := by decide +kernel
theorem dX1_init_4 : decode cX1_init 4 = .ok (.aload_n 0, 1) := by decide +kernel
theorem dX1_init_5 : decode cX1_init 5 = .ok (.iconst 1, 1) := by decide +kernel
theorem dX1_init_6 : decode cX1_init 6 = .ok (.putfield 9, 3) := by decide +kernel
theorem dX1_init_9 : decode cX1_init 9 = .ok (.aload_n 0, 1) := by decide +kernel
theorem dX1_init_10 : decode cX1_init 10 = .ok (.iconst 1, 1) := by decide +kernel
theorem dX1_init_11 : decode cX1_init 11 = .ok (.putfield 15, 3) := by decide +kernel
theorem dX1_init_14 : decode cX1_init 14 = .ok (.aload_n 0, 1) := by decide +kernel
theorem dX1_init_15 : decode cX1_init 15 = .ok (.iconst 1, 1) := by decide +kernel
theorem dX1_init_16 : decode cX1_init 16 = .ok (.putfield 19, 3) := by decide +kernel
theorem dX1_init_19 : decode cX1_init 19 = .ok (.aload_n 0, 1) := by decide +kernel
theorem dX1_init_20 : decode cX1_init 20 = .ok (.iconst 1, 1) := by decide +kernel
theorem dX1_init_21 : decode cX1_init 21 = .ok (.putfield 22, 3) := by decide +kernel
theorem dX1_init_24 : decode cX1_init 24 = .ok (.aload_n 0, 1) := by decide +kernel
theorem dX1_init_25 : decode cX1_init 25 = .ok (.bipush 16, 2) := by decide +kernel
theorem dX1_init_27 : decode cX1_init 27 = .ok (.anewarray 25, 3) := by decide +kernel
theorem dX1_init_30 : decode cX1_init 30 = .ok (.putfield 27, 3) := by decide +kernel
theorem dX1_init_33 : decode cX1_init 33 = .ok (.aload_n 0, 1) := by decide +kernel
theorem dX1_init_34 : decode cX1_init 34 = .ok (.iload_n 1, 1) := by decide +kernel
theorem dX1_init_35 : decode cX1_init 35 = .ok (.putfield 31, 3) := by decide +kernel
theorem dX1_init_38 : decode cX1_init 38 = .ok (.return_, 1) := by decide +kernel
theorem dX1_lowestOpen_0 : decode cX1_lowestOpen 0 = .ok (.aload_n 0, 1) := by decide +kernel
theorem dX1_lowestOpen_1 : decode cX1_lowestOpen 1 = .ok (.getfield 22, 3) := by decide +kernel
theorem dX1_lowestOpen_4 : decode cX1_lowestOpen 4 = .ok (.aload_n 0, 1) := by decide +kernel
theorem dX1_lowestOpen_5 : decode cX1_lowestOpen 5 = .ok (.getfield 19, 3) := by decide +kernel
theorem dX1_lowestOpen_8 : decode cX1_lowestOpen 8 = .ok (.if_icmp .ge 34, 3) := by decide +kernel
theorem dX1_lowestOpen_11 : decode cX1_lowestOpen 11 = .ok (.aload_n 0, 1) := by decide +kernel
theorem dX1_lowestOpen_12 : decode cX1_lowestOpen 12 = .ok (.getfield 27, 3) := by decide +kernel
theorem dX1_lowestOpen_15 : decode cX1_lowestOpen 15 = .ok (.aload_n 0, 1) := by decide +kernel
theorem dX1_lowestOpen_16 : decode cX1_lowestOpen 16 = .ok (.getfield 22, 3) := by decide +kernel
theorem dX1_lowestOpen_19 : decode cX1_lowestOpen 19 = .ok (.bipush 15, 2) := by decide +kernel
theorem dX1_lowestOpen_21 : decode cX1_lowestOpen 21 = .ok (.iand, 1) := by decide +kernel
theorem dX1_lowestOpen_22 : decode cX1_lowestOpen 22 = .ok (.aaload, 1) := by decide +kernel
theorem dX1_lowestOpen_23 : decode cX1_lowestOpen 23 = .ok (.invokestatic 34, 3) := by decide +kernel
theorem dX1_lowestOpen_26 : decode cX1_lowestOpen 26 = .ok (.ifCond .ne 16, 3) := by decide +kernel
theorem dX1_lowestOpen_29 : decode cX1_lowestOpen 29 = .ok (.aload_n 0, 1) := by decide +kernel
theorem dX1_lowestOpen_30 : decode cX1_lowestOpen 30 = .ok (.dup, 1) := by decide +kernel
theorem dX1_lowestOpen_31 : decode cX1_lowestOpen 31 = .ok (.getfield 22, 3) := by decide +kernel
theorem dX1_lowestOpen_34 : decode cX1_lowestOpen 34 = .ok (.iconst 1, 1) := by decide +kernel
theorem dX1_lowestOpen_35 : decode cX1_lowestOpen 35 = .ok (.iadd, 1) := by decide +kernel
theorem dX1_lowestOpen_36 : decode cX1_lowestOpen 36 = .ok (.putfield 22, 3) := by decide +kernel
theorem dX1_lowestOpen_39 : decode cX1_lowestOpen 39 = .ok (.goto (-39), 3) := by decide +kernel
theorem dX1_lowestOpen_42 : decode cX1_lowestOpen 42 = .ok (.aload_n 0, 1) := by decide +kernel
theorem dX1_lowestOpen_43 : decode cX1_lowestOpen 43 = .ok (.getfield 22, 3) := by decide +kernel
theorem dX1_lowestOpen_46 : decode cX1_lowestOpen 46 = .ok (.ireturn, 1) := by decide +kernel
theorem dX1_keep_0 : decode cX1_keep 0 = .ok (.aload_n 0, 1) := by decide +kernel
theorem dX1_keep_1 : decode cX1_keep 1 = .ok (.getfield 27, 3) := by decide +kernel
theorem dX1_keep_4 : decode cX1_keep 4 = .ok (.aload_n 0, 1) := by decide +kernel
theorem dX1_keep_5 : decode cX1_keep 5 = .ok (.getfield 19, 3) := by decide +kernel
theorem dX1_keep_8 : decode cX1_keep 8 = .ok (.bipush 15, 2) := by decide +kernel
theorem dX1_keep_10 : decode cX1_keep 10 = .ok (.iand, 1) := by decide +kernel
theorem dX1_keep_11 : decode cX1_keep 11 = .ok (.aload_n 1, 1) := by decide +kernel
theorem dX1_keep_12 : decode cX1_keep 12 = .ok (.aastore, 1) := by decide +kernel
theorem dX1_keep_13 : decode cX1_keep 13 = .ok (.aload_n 0, 1) := by decide +kernel
theorem dX1_keep_14 : decode cX1_keep 14 = .ok (.dup, 1) := by decide +kernel
theorem dX1_keep_15 : decode cX1_keep 15 = .ok (.getfield 19, 3) := by decide +kernel
theorem dX1_keep_18 : decode cX1_keep 18 = .ok (.iconst 1, 1) := by decide +kernel
theorem dX1_keep_19 : decode cX1_keep 19 = .ok (.iadd, 1) := by decide +kernel
theorem dX1_keep_20 : decode cX1_keep 20 = .ok (.putfield 19, 3) := by decide +kernel
theorem dX1_keep_23 : decode cX1_keep 23 = .ok (.return_, 1) := by decide +kernel
theorem dX1_beginLife_0 : decode cX1_beginLife 0 = .ok (.iconst 0, 1) := by decide +kernel
theorem dX1_beginLife_1 : decode cX1_beginLife 1 = .ok (.istore_n 1, 1) := by decide +kernel
theorem dX1_beginLife_2 : decode cX1_beginLife 2 = .ok (.iload_n 1, 1) := by decide +kernel
theorem dX1_beginLife_3 : decode cX1_beginLife 3 = .ok (.bipush 16, 2) := by decide +kernel
theorem dX1_beginLife_5 : decode cX1_beginLife 5 = .ok (.if_icmp .ge 32, 3) := by decide +kernel
theorem dX1_beginLife_8 : decode cX1_beginLife 8 = .ok (.aload_n 0, 1) := by decide +kernel
theorem dX1_beginLife_9 : decode cX1_beginLife 9 = .ok (.getfield 27, 3) := by decide +kernel
theorem dX1_beginLife_12 : decode cX1_beginLife 12 = .ok (.iload_n 1, 1) := by decide +kernel
theorem dX1_beginLife_13 : decode cX1_beginLife 13 = .ok (.aaload, 1) := by decide +kernel
theorem dX1_beginLife_14 : decode cX1_beginLife 14 = .ok (.astore_n 2, 1) := by decide +kernel
theorem dX1_beginLife_15 : decode cX1_beginLife 15 = .ok (.aload_n 2, 1) := by decide +kernel
theorem dX1_beginLife_16 : decode cX1_beginLife 16 = .ok (.ifnull 15, 3) := by decide +kernel
theorem dX1_beginLife_19 : decode cX1_beginLife 19 = .ok (.aload_n 2, 1) := by decide +kernel
theorem dX1_beginLife_20 : decode cX1_beginLife 20 = .ok (.invokestatic 34, 3) := by decide +kernel
theorem dX1_beginLife_23 : decode cX1_beginLife 23 = .ok (.ifCond .eq 8, 3) := by decide +kernel
theorem dX1_beginLife_26 : decode cX1_beginLife 26 = .ok (.aload_n 2, 1) := by decide +kernel
theorem dX1_beginLife_27 : decode cX1_beginLife 27 = .ok (.iconst 2, 1) := by decide +kernel
theorem dX1_beginLife_28 : decode cX1_beginLife 28 = .ok (.putfield 38, 3) := by decide +kernel
theorem dX1_beginLife_31 : decode cX1_beginLife 31 = .ok (.iinc 1 1, 3) := by decide +kernel
theorem dX1_beginLife_34 : decode cX1_beginLife 34 = .ok (.goto (-32), 3) := by decide +kernel
theorem dX1_beginLife_37 : decode cX1_beginLife 37 = .ok (.aload_n 0, 1) := by decide +kernel
theorem dX1_beginLife_38 : decode cX1_beginLife 38 = .ok (.dup, 1) := by decide +kernel
theorem dX1_beginLife_39 : decode cX1_beginLife 39 = .ok (.getfield 15, 3) := by decide +kernel
theorem dX1_beginLife_42 : decode cX1_beginLife 42 = .ok (.iconst 1, 1) := by decide +kernel
theorem dX1_beginLife_43 : decode cX1_beginLife 43 = .ok (.iadd, 1) := by decide +kernel
theorem dX1_beginLife_44 : decode cX1_beginLife 44 = .ok (.putfield 15, 3) := by decide +kernel
theorem dX1_beginLife_47 : decode cX1_beginLife 47 = .ok (.aload_n 0, 1) := by decide +kernel
theorem dX1_beginLife_48 : decode cX1_beginLife 48 = .ok (.iconst 1, 1) := by decide +kernel
theorem dX1_beginLife_49 : decode cX1_beginLife 49 = .ok (.putfield 19, 3) := by decide +kernel
theorem dX1_beginLife_52 : decode cX1_beginLife 52 = .ok (.aload_n 0, 1) := by decide +kernel
theorem dX1_beginLife_53 : decode cX1_beginLife 53 = .ok (.iconst 1, 1) := by decide +kernel
theorem dX1_beginLife_54 : decode cX1_beginLife 54 = .ok (.putfield 22, 3) := by decide +kernel
theorem dX1_beginLife_57 : decode cX1_beginLife 57 = .ok (.return_, 1) := by decide +kernel
theorem dX1_isOpen_0 : decode cX1_isOpen 0 = .ok (.aload_n 0, 1) := by decide +kernel
theorem dX1_isOpen_1 : decode cX1_isOpen 1 = .ok (.ifnull 14, 3) := by decide +kernel
theorem dX1_isOpen_4 : decode cX1_isOpen 4 = .ok (.aload_n 0, 1) := by decide +kernel
theorem dX1_isOpen_5 : decode cX1_isOpen 5 = .ok (.getfield 38, 3) := by decide +kernel
theorem dX1_isOpen_8 : decode cX1_isOpen 8 = .ok (.ifCond .ne 7, 3) := by decide +kernel
theorem dX1_isOpen_11 : decode cX1_isOpen 11 = .ok (.iconst 1, 1) := by decide +kernel
theorem dX1_isOpen_12 : decode cX1_isOpen 12 = .ok (.goto 4, 3) := by decide +kernel
theorem dX1_isOpen_15 : decode cX1_isOpen 15 = .ok (.iconst 0, 1) := by decide +kernel
theorem dX1_isOpen_16 : decode cX1_isOpen 16 = .ok (.ireturn, 1) := by decide +kernel
theorem dX2_init_0 : decode cX2_init 0 = .ok (.aload_n 0, 1) := by decide +kernel
theorem dX2_init_1 : decode cX2_init 1 = .ok (.invokespecial 1, 3) := by decide +kernel
theorem dX2_init_4 : decode cX2_init 4 = .ok (.return_, 1) := by decide +kernel
theorem dX2_asks_0 : decode cX2_asks 0 = .ok (.aload_n 0, 1) := by decide +kernel
theorem dX2_asks_1 : decode cX2_asks 1 = .ok (.aload_n 1, 1) := by decide +kernel
theorem dX2_asks_2 : decode cX2_asks 2 = .ok (.putfield 7, 3) := by decide +kernel
theorem dX2_asks_5 : decode cX2_asks 5 = .ok (.aload_n 0, 1) := by decide +kernel
theorem dX2_asks_6 : decode cX2_asks 6 = .ok (.iconst 0, 1) := by decide +kernel
theorem dX2_asks_7 : decode cX2_asks 7 = .ok (.putfield 13, 3) := by decide +kernel
theorem dX2_asks_10 : decode cX2_asks 10 = .ok (.aload_n 0, 1) := by decide +kernel
theorem dX2_asks_11 : decode cX2_asks 11 = .ok (.iconst 0, 1) := by decide +kernel
theorem dX2_asks_12 : decode cX2_asks 12 = .ok (.putfield 17, 3) := by decide +kernel
theorem dX2_asks_15 : decode cX2_asks 15 = .ok (.aload_n 0, 1) := by decide +kernel
theorem dX2_asks_16 : decode cX2_asks 16 = .ok (.iconst 0, 1) := by decide +kernel
theorem dX2_asks_17 : decode cX2_asks 17 = .ok (.putfield 20, 3) := by decide +kernel
theorem dX2_asks_20 : decode cX2_asks 20 = .ok (.aload_n 0, 1) := by decide +kernel
theorem dX2_asks_21 : decode cX2_asks 21 = .ok (.iload_n 2, 1) := by decide +kernel
theorem dX2_asks_22 : decode cX2_asks 22 = .ok (.putfield 23, 3) := by decide +kernel
theorem dX2_asks_25 : decode cX2_asks 25 = .ok (.aload_n 0, 1) := by decide +kernel
theorem dX2_asks_26 : decode cX2_asks 26 = .ok (.lconst 0, 1) := by decide +kernel
theorem dX2_asks_27 : decode cX2_asks 27 = .ok (.putfield 27, 3) := by decide +kernel
theorem dX2_asks_30 : decode cX2_asks 30 = .ok (.return_, 1) := by decide +kernel
theorem dX2_replies_0 : decode cX2_replies 0 = .ok (.aload_n 0, 1) := by decide +kernel
theorem dX2_replies_1 : decode cX2_replies 1 = .ok (.aload_n 1, 1) := by decide +kernel
theorem dX2_replies_2 : decode cX2_replies 2 = .ok (.iconst 0, 1) := by decide +kernel
theorem dX2_replies_3 : decode cX2_replies 3 = .ok (.invokevirtual 31, 3) := by decide +kernel
theorem dX2_replies_6 : decode cX2_replies 6 = .ok (.aload_n 0, 1) := by decide +kernel
theorem dX2_replies_7 : decode cX2_replies 7 = .ok (.iconst 1, 1) := by decide +kernel
theorem dX2_replies_8 : decode cX2_replies 8 = .ok (.putfield 13, 3) := by decide +kernel
theorem dX2_replies_11 : decode cX2_replies 11 = .ok (.aload_n 0, 1) := by decide +kernel
theorem dX2_replies_12 : decode cX2_replies 12 = .ok (.lload_n 2, 1) := by decide +kernel
theorem dX2_replies_13 : decode cX2_replies 13 = .ok (.putfield 27, 3) := by decide +kernel
theorem dX2_replies_16 : decode cX2_replies 16 = .ok (.return_, 1) := by decide +kernel
theorem dX2_refuses_0 : decode cX2_refuses 0 = .ok (.aload_n 0, 1) := by decide +kernel
theorem dX2_refuses_1 : decode cX2_refuses 1 = .ok (.aload_n 1, 1) := by decide +kernel
theorem dX2_refuses_2 : decode cX2_refuses 2 = .ok (.lconst 0, 1) := by decide +kernel
theorem dX2_refuses_3 : decode cX2_refuses 3 = .ok (.invokevirtual 35, 3) := by decide +kernel
theorem dX2_refuses_6 : decode cX2_refuses 6 = .ok (.aload_n 0, 1) := by decide +kernel
theorem dX2_refuses_7 : decode cX2_refuses 7 = .ok (.iconst 1, 1) := by decide +kernel
theorem dX2_refuses_8 : decode cX2_refuses 8 = .ok (.putfield 17, 3) := by decide +kernel
theorem dX2_refuses_11 : decode cX2_refuses 11 = .ok (.return_, 1) := by decide +kernel
theorem dX2_become_0 : decode cX2_become 0 = .ok (.aload_n 0, 1) := by decide +kernel
theorem dX2_become_1 : decode cX2_become 1 = .ok (.aload_n 1, 1) := by decide +kernel
theorem dX2_become_2 : decode cX2_become 2 = .ok (.getfield 7, 3) := by decide +kernel
theorem dX2_become_5 : decode cX2_become 5 = .ok (.putfield 7, 3) := by decide +kernel
theorem dX2_become_8 : decode cX2_become 8 = .ok (.aload_n 0, 1) := by decide +kernel
theorem dX2_become_9 : decode cX2_become 9 = .ok (.aload_n 1, 1) := by decide +kernel
theorem dX2_become_10 : decode cX2_become 10 = .ok (.getfield 13, 3) := by decide +kernel
theorem dX2_become_13 : decode cX2_become 13 = .ok (.putfield 13, 3) := by decide +kernel
theorem dX2_become_16 : decode cX2_become 16 = .ok (.aload_n 0, 1) := by decide +kernel
theorem dX2_become_17 : decode cX2_become 17 = .ok (.aload_n 1, 1) := by decide +kernel
theorem dX2_become_18 : decode cX2_become 18 = .ok (.getfield 17, 3) := by decide +kernel
theorem dX2_become_21 : decode cX2_become 21 = .ok (.putfield 17, 3) := by decide +kernel
theorem dX2_become_24 : decode cX2_become 24 = .ok (.aload_n 0, 1) := by decide +kernel
theorem dX2_become_25 : decode cX2_become 25 = .ok (.aload_n 1, 1) := by decide +kernel
theorem dX2_become_26 : decode cX2_become 26 = .ok (.getfield 20, 3) := by decide +kernel
theorem dX2_become_29 : decode cX2_become 29 = .ok (.putfield 20, 3) := by decide +kernel
theorem dX2_become_32 : decode cX2_become 32 = .ok (.aload_n 0, 1) := by decide +kernel
theorem dX2_become_33 : decode cX2_become 33 = .ok (.aload_n 1, 1) := by decide +kernel
theorem dX2_become_34 : decode cX2_become 34 = .ok (.getfield 23, 3) := by decide +kernel
theorem dX2_become_37 : decode cX2_become 37 = .ok (.putfield 23, 3) := by decide +kernel
theorem dX2_become_40 : decode cX2_become 40 = .ok (.aload_n 0, 1) := by decide +kernel
theorem dX2_become_41 : decode cX2_become 41 = .ok (.aload_n 1, 1) := by decide +kernel
theorem dX2_become_42 : decode cX2_become 42 = .ok (.getfield 27, 3) := by decide +kernel
theorem dX2_become_45 : decode cX2_become 45 = .ok (.putfield 27, 3) := by decide +kernel
theorem dX2_become_48 : decode cX2_become 48 = .ok (.return_, 1) := by decide +kernel
theorem dX3_init_0 : decode cX3_init 0 = .ok (.aload_n 0, 1) := by decide +kernel
theorem dX3_init_1 : decode cX3_init 1 = .ok (.invokespecial 3, 3) := by decide +kernel
theorem dX3_init_4 : decode cX3_init 4 = .ok (.aload_n 0, 1) := by decide +kernel
theorem dX3_init_5 : decode cX3_init 5 = .ok (.iconst 1, 1) := by decide +kernel
theorem dX3_init_6 : decode cX3_init 6 = .ok (.putfield 9, 3) := by decide +kernel
theorem dX3_init_9 : decode cX3_init 9 = .ok (.aload_n 0, 1) := by decide +kernel
theorem dX3_init_10 : decode cX3_init 10 = .ok (.bipush 16, 2) := by decide +kernel
theorem dX3_init_12 : decode cX3_init 12 = .ok (.newarray .int, 2) := by decide +kernel
theorem dX3_init_14 : decode cX3_init 14 = .ok (.putfield 15, 3) := by decide +kernel
theorem dX3_init_17 : decode cX3_init 17 = .ok (.aload_n 0, 1) := by decide +kernel
theorem dX3_init_18 : decode cX3_init 18 = .ok (.bipush 16, 2) := by decide +kernel
theorem dX3_init_20 : decode cX3_init 20 = .ok (.newarray .long, 2) := by decide +kernel
theorem dX3_init_22 : decode cX3_init 22 = .ok (.putfield 19, 3) := by decide +kernel
theorem dX3_init_25 : decode cX3_init 25 = .ok (.aload_n 0, 1) := by decide +kernel
theorem dX3_init_26 : decode cX3_init 26 = .ok (.iload_n 1, 1) := by decide +kernel
theorem dX3_init_27 : decode cX3_init 27 = .ok (.putfield 23, 3) := by decide +kernel
theorem dX3_init_30 : decode cX3_init 30 = .ok (.return_, 1) := by decide +kernel
theorem dX3_isWithin_0 : decode cX3_isWithin 0 = .ok (.iload_n 1, 1) := by decide +kernel
theorem dX3_isWithin_1 : decode cX3_isWithin 1 = .ok (.aload_n 0, 1) := by decide +kernel
theorem dX3_isWithin_2 : decode cX3_isWithin 2 = .ok (.getfield 9, 3) := by decide +kernel
theorem dX3_isWithin_5 : decode cX3_isWithin 5 = .ok (.if_icmp .lt 20, 3) := by decide +kernel
theorem dX3_isWithin_8 : decode cX3_isWithin 8 = .ok (.iload_n 1, 1) := by decide +kernel
theorem dX3_isWithin_9 : decode cX3_isWithin 9 = .ok (.aload_n 0, 1) := by decide +kernel
theorem dX3_isWithin_10 : decode cX3_isWithin 10 = .ok (.getfield 9, 3) := by decide +kernel
theorem dX3_isWithin_13 : decode cX3_isWithin 13 = .ok (.isub, 1) := by decide +kernel
theorem dX3_isWithin_14 : decode cX3_isWithin 14 = .ok (.aload_n 0, 1) := by decide +kernel
theorem dX3_isWithin_15 : decode cX3_isWithin 15 = .ok (.getfield 23, 3) := by decide +kernel
theorem dX3_isWithin_18 : decode cX3_isWithin 18 = .ok (.if_icmp .ge 7, 3) := by decide +kernel
theorem dX3_isWithin_21 : decode cX3_isWithin 21 = .ok (.iconst 1, 1) := by decide +kernel
theorem dX3_isWithin_22 : decode cX3_isWithin 22 = .ok (.goto 4, 3) := by decide +kernel
theorem dX3_isWithin_25 : decode cX3_isWithin 25 = .ok (.iconst 0, 1) := by decide +kernel
theorem dX3_isWithin_26 : decode cX3_isWithin 26 = .ok (.ireturn, 1) := by decide +kernel
theorem dX3_stateOf_0 : decode cX3_stateOf 0 = .ok (.aload_n 0, 1) := by decide +kernel
theorem dX3_stateOf_1 : decode cX3_stateOf 1 = .ok (.iload_n 1, 1) := by decide +kernel
theorem dX3_stateOf_2 : decode cX3_stateOf 2 = .ok (.invokevirtual 26, 3) := by decide +kernel
theorem dX3_stateOf_5 : decode cX3_stateOf 5 = .ok (.ifCond .eq 15, 3) := by decide +kernel
theorem dX3_stateOf_8 : decode cX3_stateOf 8 = .ok (.aload_n 0, 1) := by decide +kernel
theorem dX3_stateOf_9 : decode cX3_stateOf 9 = .ok (.getfield 15, 3) := by decide +kernel
theorem dX3_stateOf_12 : decode cX3_stateOf 12 = .ok (.iload_n 1, 1) := by decide +kernel
theorem dX3_stateOf_13 : decode cX3_stateOf 13 = .ok (.bipush 15, 2) := by decide +kernel
theorem dX3_stateOf_15 : decode cX3_stateOf 15 = .ok (.iand, 1) := by decide +kernel
theorem dX3_stateOf_16 : decode cX3_stateOf 16 = .ok (.iaload, 1) := by decide +kernel
theorem dX3_stateOf_17 : decode cX3_stateOf 17 = .ok (.goto 4, 3) := by decide +kernel
theorem dX3_stateOf_20 : decode cX3_stateOf 20 = .ok (.iconst 0, 1) := by decide +kernel
theorem dX3_stateOf_21 : decode cX3_stateOf 21 = .ok (.ireturn, 1) := by decide +kernel
theorem dX3_answerOf_0 : decode cX3_answerOf 0 = .ok (.aload_n 0, 1) := by decide +kernel
theorem dX3_answerOf_1 : decode cX3_answerOf 1 = .ok (.iload_n 1, 1) := by decide +kernel
theorem dX3_answerOf_2 : decode cX3_answerOf 2 = .ok (.invokevirtual 26, 3) := by decide +kernel
theorem dX3_answerOf_5 : decode cX3_answerOf 5 = .ok (.ifCond .eq 15, 3) := by decide +kernel
theorem dX3_answerOf_8 : decode cX3_answerOf 8 = .ok (.aload_n 0, 1) := by decide +kernel
theorem dX3_answerOf_9 : decode cX3_answerOf 9 = .ok (.getfield 19, 3) := by decide +kernel
theorem dX3_answerOf_12 : decode cX3_answerOf 12 = .ok (.iload_n 1, 1) := by decide +kernel
theorem dX3_answerOf_13 : decode cX3_answerOf 13 = .ok (.bipush 15, 2) := by decide +kernel
theorem dX3_answerOf_15 : decode cX3_answerOf 15 = .ok (.iand, 1) := by decide +kernel
theorem dX3_answerOf_16 : decode cX3_answerOf 16 = .ok (.laload, 1) := by decide +kernel
theorem dX3_answerOf_17 : decode cX3_answerOf 17 = .ok (.goto 4, 3) := by decide +kernel
theorem dX3_answerOf_20 : decode cX3_answerOf 20 = .ok (.lconst 0, 1) := by decide +kernel
theorem dX3_answerOf_21 : decode cX3_answerOf 21 = .ok (.lreturn, 1) := by decide +kernel
theorem dX3_write_0 : decode cX3_write 0 = .ok (.aload_n 0, 1) := by decide +kernel
theorem dX3_write_1 : decode cX3_write 1 = .ok (.iload_n 1, 1) := by decide +kernel
theorem dX3_write_2 : decode cX3_write 2 = .ok (.invokevirtual 26, 3) := by decide +kernel
theorem dX3_write_5 : decode cX3_write 5 = .ok (.ifCond .ne 4, 3) := by decide +kernel
theorem dX3_write_8 : decode cX3_write 8 = .ok (.return_, 1) := by decide +kernel
theorem dX3_write_9 : decode cX3_write 9 = .ok (.aload_n 0, 1) := by decide +kernel
theorem dX3_write_10 : decode cX3_write 10 = .ok (.getfield 15, 3) := by decide +kernel
theorem dX3_write_13 : decode cX3_write 13 = .ok (.iload_n 1, 1) := by decide +kernel
theorem dX3_write_14 : decode cX3_write 14 = .ok (.bipush 15, 2) := by decide +kernel
theorem dX3_write_16 : decode cX3_write 16 = .ok (.iand, 1) := by decide +kernel
theorem dX3_write_17 : decode cX3_write 17 = .ok (.iaload, 1) := by decide +kernel
theorem dX3_write_18 : decode cX3_write 18 = .ok (.ifCond .ne 13, 3) := by decide +kernel
theorem dX3_write_21 : decode cX3_write 21 = .ok (.aload_n 0, 1) := by decide +kernel
theorem dX3_write_22 : decode cX3_write 22 = .ok (.dup, 1) := by decide +kernel
theorem dX3_write_23 : decode cX3_write 23 = .ok (.getfield 30, 3) := by decide +kernel
theorem dX3_write_26 : decode cX3_write 26 = .ok (.iconst 1, 1) := by decide +kernel
theorem dX3_write_27 : decode cX3_write 27 = .ok (.iadd, 1) := by decide +kernel
theorem dX3_write_28 : decode cX3_write 28 = .ok (.putfield 30, 3) := by decide +kernel
theorem dX3_write_31 : decode cX3_write 31 = .ok (.aload_n 0, 1) := by decide +kernel
theorem dX3_write_32 : decode cX3_write 32 = .ok (.getfield 15, 3) := by decide +kernel
theorem dX3_write_35 : decode cX3_write 35 = .ok (.iload_n 1, 1) := by decide +kernel
theorem dX3_write_36 : decode cX3_write 36 = .ok (.bipush 15, 2) := by decide +kernel
theorem dX3_write_38 : decode cX3_write 38 = .ok (.iand, 1) := by decide +kernel
theorem dX3_write_39 : decode cX3_write 39 = .ok (.iload_n 2, 1) := by decide +kernel
theorem dX3_write_40 : decode cX3_write 40 = .ok (.iastore, 1) := by decide +kernel
theorem dX3_write_41 : decode cX3_write 41 = .ok (.aload_n 0, 1) := by decide +kernel
theorem dX3_write_42 : decode cX3_write 42 = .ok (.getfield 19, 3) := by decide +kernel
theorem dX3_write_45 : decode cX3_write 45 = .ok (.iload_n 1, 1) := by decide +kernel
theorem dX3_write_46 : decode cX3_write 46 = .ok (.bipush 15, 2) := by decide +kernel
theorem dX3_write_48 : decode cX3_write 48 = .ok (.iand, 1) := by decide +kernel
theorem dX3_write_49 : decode cX3_write 49 = .ok (.lload_n 3, 1) := by decide +kernel
theorem dX3_write_50 : decode cX3_write 50 = .ok (.lastore, 1) := by decide +kernel
theorem dX3_write_51 : decode cX3_write 51 = .ok (.return_, 1) := by decide +kernel
theorem dX3_raiseLow_0 : decode cX3_raiseLow 0 = .ok (.iload_n 1, 1) := by decide +kernel
theorem dX3_raiseLow_1 : decode cX3_raiseLow 1 = .ok (.aload_n 0, 1) := by decide +kernel
theorem dX3_raiseLow_2 : decode cX3_raiseLow 2 = .ok (.getfield 9, 3) := by decide +kernel
theorem dX3_raiseLow_5 : decode cX3_raiseLow 5 = .ok (.if_icmp .gt 4, 3) := by decide +kernel
theorem dX3_raiseLow_8 : decode cX3_raiseLow 8 = .ok (.return_, 1) := by decide +kernel
theorem dX3_raiseLow_9 : decode cX3_raiseLow 9 = .ok (.iload_n 1, 1) := by decide +kernel
theorem dX3_raiseLow_10 : decode cX3_raiseLow 10 = .ok (.aload_n 0, 1) := by decide +kernel
theorem dX3_raiseLow_11 : decode cX3_raiseLow 11 = .ok (.getfield 9, 3) := by decide +kernel
theorem dX3_raiseLow_14 : decode cX3_raiseLow 14 = .ok (.aload_n 0, 1) := by decide +kernel
theorem dX3_raiseLow_15 : decode cX3_raiseLow 15 = .ok (.getfield 23, 3) := by decide +kernel
theorem dX3_raiseLow_18 : decode cX3_raiseLow 18 = .ok (.iadd, 1) := by decide +kernel
theorem dX3_raiseLow_19 : decode cX3_raiseLow 19 = .ok (.invokestatic 33, 3) := by decide +kernel
theorem dX3_raiseLow_22 : decode cX3_raiseLow 22 = .ok (.istore_n 2, 1) := by decide +kernel
theorem dX3_raiseLow_23 : decode cX3_raiseLow 23 = .ok (.aload_n 0, 1) := by decide +kernel
theorem dX3_raiseLow_24 : decode cX3_raiseLow 24 = .ok (.getfield 9, 3) := by decide +kernel
theorem dX3_raiseLow_27 : decode cX3_raiseLow 27 = .ok (.istore_n 3, 1) := by decide +kernel
theorem dX3_raiseLow_28 : decode cX3_raiseLow 28 = .ok (.iload_n 3, 1) := by decide +kernel
theorem dX3_raiseLow_29 : decode cX3_raiseLow 29 = .ok (.iload_n 2, 1) := by decide +kernel
theorem dX3_raiseLow_30 : decode cX3_raiseLow 30 = .ok (.if_icmp .ge 14, 3) := by decide +kernel
theorem dX3_raiseLow_33 : decode cX3_raiseLow 33 = .ok (.aload_n 0, 1) := by decide +kernel
theorem dX3_raiseLow_34 : decode cX3_raiseLow 34 = .ok (.iload_n 3, 1) := by decide +kernel
theorem dX3_raiseLow_35 : decode cX3_raiseLow 35 = .ok (.invokevirtual 39, 3) := by decide +kernel
theorem dX3_raiseLow_38 : decode cX3_raiseLow 38 = .ok (.iinc 3 1, 3) := by decide +kernel
theorem dX3_raiseLow_41 : decode cX3_raiseLow 41 = .ok (.goto (-13), 3) := by decide +kernel
theorem dX3_raiseLow_44 : decode cX3_raiseLow 44 = .ok (.aload_n 0, 1) := by decide +kernel
theorem dX3_raiseLow_45 : decode cX3_raiseLow 45 = .ok (.iload_n 1, 1) := by decide +kernel
theorem dX3_raiseLow_46 : decode cX3_raiseLow 46 = .ok (.putfield 9, 3) := by decide +kernel
theorem dX3_raiseLow_49 : decode cX3_raiseLow 49 = .ok (.return_, 1) := by decide +kernel
theorem dX3_beginLife_0 : decode cX3_beginLife 0 = .ok (.aload_n 0, 1) := by decide +kernel
theorem dX3_beginLife_1 : decode cX3_beginLife 1 = .ok (.getfield 9, 3) := by decide +kernel
theorem dX3_beginLife_4 : decode cX3_beginLife 4 = .ok (.istore_n 2, 1) := by decide +kernel
theorem dX3_beginLife_5 : decode cX3_beginLife 5 = .ok (.iload_n 2, 1) := by decide +kernel
theorem dX3_beginLife_6 : decode cX3_beginLife 6 = .ok (.aload_n 0, 1) := by decide +kernel
theorem dX3_beginLife_7 : decode cX3_beginLife 7 = .ok (.getfield 9, 3) := by decide +kernel
theorem dX3_beginLife_10 : decode cX3_beginLife 10 = .ok (.aload_n 0, 1) := by decide +kernel
theorem dX3_beginLife_11 : decode cX3_beginLife 11 = .ok (.getfield 23, 3) := by decide +kernel
theorem dX3_beginLife_14 : decode cX3_beginLife 14 = .ok (.iadd, 1) := by decide +kernel
theorem dX3_beginLife_15 : decode cX3_beginLife 15 = .ok (.if_icmp .ge 14, 3) := by decide +kernel
theorem dX3_beginLife_18 : decode cX3_beginLife 18 = .ok (.aload_n 0, 1) := by decide +kernel
theorem dX3_beginLife_19 : decode cX3_beginLife 19 = .ok (.iload_n 2, 1) := by decide +kernel
theorem dX3_beginLife_20 : decode cX3_beginLife 20 = .ok (.invokevirtual 39, 3) := by decide +kernel
theorem dX3_beginLife_23 : decode cX3_beginLife 23 = .ok (.iinc 2 1, 3) := by decide +kernel
theorem dX3_beginLife_26 : decode cX3_beginLife 26 = .ok (.goto (-21), 3) := by decide +kernel
theorem dX3_beginLife_29 : decode cX3_beginLife 29 = .ok (.aload_n 0, 1) := by decide +kernel
theorem dX3_beginLife_30 : decode cX3_beginLife 30 = .ok (.iload_n 1, 1) := by decide +kernel
theorem dX3_beginLife_31 : decode cX3_beginLife 31 = .ok (.putfield 43, 3) := by decide +kernel
theorem dX3_beginLife_34 : decode cX3_beginLife 34 = .ok (.aload_n 0, 1) := by decide +kernel
theorem dX3_beginLife_35 : decode cX3_beginLife 35 = .ok (.iconst 1, 1) := by decide +kernel
theorem dX3_beginLife_36 : decode cX3_beginLife 36 = .ok (.putfield 9, 3) := by decide +kernel
theorem dX3_beginLife_39 : decode cX3_beginLife 39 = .ok (.return_, 1) := by decide +kernel
theorem dX3_hasMidst_0 : decode cX3_hasMidst 0 = .ok (.aload_n 0, 1) := by decide +kernel
theorem dX3_hasMidst_1 : decode cX3_hasMidst 1 = .ok (.getfield 9, 3) := by decide +kernel
theorem dX3_hasMidst_4 : decode cX3_hasMidst 4 = .ok (.istore_n 1, 1) := by decide +kernel
theorem dX3_hasMidst_5 : decode cX3_hasMidst 5 = .ok (.iload_n 1, 1) := by decide +kernel
theorem dX3_hasMidst_6 : decode cX3_hasMidst 6 = .ok (.aload_n 0, 1) := by decide +kernel
theorem dX3_hasMidst_7 : decode cX3_hasMidst 7 = .ok (.getfield 9, 3) := by decide +kernel
theorem dX3_hasMidst_10 : decode cX3_hasMidst 10 = .ok (.aload_n 0, 1) := by decide +kernel
theorem dX3_hasMidst_11 : decode cX3_hasMidst 11 = .ok (.getfield 23, 3) := by decide +kernel
theorem dX3_hasMidst_14 : decode cX3_hasMidst 14 = .ok (.iadd, 1) := by decide +kernel
theorem dX3_hasMidst_15 : decode cX3_hasMidst 15 = .ok (.if_icmp .ge 20, 3) := by decide +kernel
theorem dX3_hasMidst_18 : decode cX3_hasMidst 18 = .ok (.aload_n 0, 1) := by decide +kernel
theorem dX3_hasMidst_19 : decode cX3_hasMidst 19 = .ok (.iload_n 1, 1) := by decide +kernel
theorem dX3_hasMidst_20 : decode cX3_hasMidst 20 = .ok (.invokevirtual 46, 3) := by decide +kernel
theorem dX3_hasMidst_23 : decode cX3_hasMidst 23 = .ok (.iconst 2, 1) := by decide +kernel
theorem dX3_hasMidst_24 : decode cX3_hasMidst 24 = .ok (.if_icmp .ne 5, 3) := by decide +kernel
theorem dX3_hasMidst_27 : decode cX3_hasMidst 27 = .ok (.iconst 1, 1) := by decide +kernel
theorem dX3_hasMidst_28 : decode cX3_hasMidst 28 = .ok (.ireturn, 1) := by decide +kernel
theorem dX3_hasMidst_29 : decode cX3_hasMidst 29 = .ok (.iinc 1 1, 3) := by decide +kernel
theorem dX3_hasMidst_32 : decode cX3_hasMidst 32 = .ok (.goto (-27), 3) := by decide +kernel
theorem dX3_hasMidst_35 : decode cX3_hasMidst 35 = .ok (.iconst 0, 1) := by decide +kernel
theorem dX3_hasMidst_36 : decode cX3_hasMidst 36 = .ok (.ireturn, 1) := by decide +kernel
theorem dX3_forget_0 : decode cX3_forget 0 = .ok (.aload_n 0, 1) := by decide +kernel
theorem dX3_forget_1 : decode cX3_forget 1 = .ok (.getfield 15, 3) := by decide +kernel
theorem dX3_forget_4 : decode cX3_forget 4 = .ok (.iload_n 1, 1) := by decide +kernel
theorem dX3_forget_5 : decode cX3_forget 5 = .ok (.bipush 15, 2) := by decide +kernel
theorem dX3_forget_7 : decode cX3_forget 7 = .ok (.iand, 1) := by decide +kernel
theorem dX3_forget_8 : decode cX3_forget 8 = .ok (.iaload, 1) := by decide +kernel
theorem dX3_forget_9 : decode cX3_forget 9 = .ok (.ifCond .eq 13, 3) := by decide +kernel
theorem dX3_forget_12 : decode cX3_forget 12 = .ok (.aload_n 0, 1) := by decide +kernel
theorem dX3_forget_13 : decode cX3_forget 13 = .ok (.dup, 1) := by decide +kernel
theorem dX3_forget_14 : decode cX3_forget 14 = .ok (.getfield 30, 3) := by decide +kernel
theorem dX3_forget_17 : decode cX3_forget 17 = .ok (.iconst 1, 1) := by decide +kernel
theorem dX3_forget_18 : decode cX3_forget 18 = .ok (.isub, 1) := by decide +kernel
theorem dX3_forget_19 : decode cX3_forget 19 = .ok (.putfield 30, 3) := by decide +kernel
theorem dX3_forget_22 : decode cX3_forget 22 = .ok (.aload_n 0, 1) := by decide +kernel
theorem dX3_forget_23 : decode cX3_forget 23 = .ok (.getfield 15, 3) := by decide +kernel
theorem dX3_forget_26 : decode cX3_forget 26 = .ok (.iload_n 1, 1) := by decide +kernel
theorem dX3_forget_27 : decode cX3_forget 27 = .ok (.bipush 15, 2) := by decide +kernel
theorem dX3_forget_29 : decode cX3_forget 29 = .ok (.iand, 1) := by decide +kernel
theorem dX3_forget_30 : decode cX3_forget 30 = .ok (.iconst 0, 1) := by decide +kernel
theorem dX3_forget_31 : decode cX3_forget 31 = .ok (.iastore, 1) := by decide +kernel
theorem dX3_forget_32 : decode cX3_forget 32 = .ok (.return_, 1) := by decide +kernel
theorem dX4_init_0 : decode cX4_init 0 = .ok (.aload_n 0, 1) := by decide +kernel
theorem dX4_init_1 : decode cX4_init 1 = .ok (.invokespecial 3, 3) := by decide +kernel
theorem dX4_init_4 : decode cX4_init 4 = .ok (.aload_n 0, 1) := by decide +kernel
theorem dX4_init_5 : decode cX4_init 5 = .ok (.sipush 128, 3) := by decide +kernel
theorem dX4_init_8 : decode cX4_init 8 = .ok (.anewarray 9, 3) := by decide +kernel
theorem dX4_init_11 : decode cX4_init 11 = .ok (.putfield 11, 3) := by decide +kernel
theorem dX4_init_14 : decode cX4_init 14 = .ok (.iconst 0, 1) := by decide +kernel
theorem dX4_init_15 : decode cX4_init 15 = .ok (.istore_n 1, 1) := by decide +kernel
theorem dX4_init_16 : decode cX4_init 16 = .ok (.iload_n 1, 1) := by decide +kernel
theorem dX4_init_17 : decode cX4_init 17 = .ok (.sipush 128, 3) := by decide +kernel
theorem dX4_init_20 : decode cX4_init 20 = .ok (.if_icmp .ge 22, 3) := by decide +kernel
theorem dX4_init_23 : decode cX4_init 23 = .ok (.aload_n 0, 1) := by decide +kernel
theorem dX4_init_24 : decode cX4_init 24 = .ok (.getfield 11, 3) := by decide +kernel
theorem dX4_init_27 : decode cX4_init 27 = .ok (.iload_n 1, 1) := by decide +kernel
theorem dX4_init_28 : decode cX4_init 28 = .ok (.new 9, 3) := by decide +kernel
theorem dX4_init_31 : decode cX4_init 31 = .ok (.dup, 1) := by decide +kernel
theorem dX4_init_32 : decode cX4_init 32 = .ok (.invokespecial 17, 3) := by decide +kernel
theorem dX4_init_35 : decode cX4_init 35 = .ok (.aastore, 1) := by decide +kernel
theorem dX4_init_36 : decode cX4_init 36 = .ok (.iinc 1 1, 3) := by decide +kernel
theorem dX4_init_39 : decode cX4_init 39 = .ok (.goto (-23), 3) := by decide +kernel
theorem dX4_init_42 : decode cX4_init 42 = .ok (.return_, 1) := by decide +kernel
theorem dX4_isFull_0 : decode cX4_isFull 0 = .ok (.aload_n 0, 1) := by decide +kernel
theorem dX4_isFull_1 : decode cX4_isFull 1 = .ok (.getfield 18, 3) := by decide +kernel
theorem dX4_isFull_4 : decode cX4_isFull 4 = .ok (.bipush 120, 2) := by decide +kernel
theorem dX4_isFull_6 : decode cX4_isFull 6 = .ok (.if_icmp .lt 7, 3) := by decide +kernel
theorem dX4_isFull_9 : decode cX4_isFull 9 = .ok (.iconst 1, 1) := by decide +kernel
theorem dX4_isFull_10 : decode cX4_isFull 10 = .ok (.goto 4, 3) := by decide +kernel
theorem dX4_isFull_13 : decode cX4_isFull 13 = .ok (.iconst 0, 1) := by decide +kernel
theorem dX4_isFull_14 : decode cX4_isFull 14 = .ok (.ireturn, 1) := by decide +kernel
theorem dX4_at_0 : decode cX4_at 0 = .ok (.iload_n 1, 1) := by decide +kernel
theorem dX4_at_1 : decode cX4_at 1 = .ok (.ifCond .lt 24, 3) := by decide +kernel
theorem dX4_at_4 : decode cX4_at 4 = .ok (.iload_n 1, 1) := by decide +kernel
theorem dX4_at_5 : decode cX4_at 5 = .ok (.aload_n 0, 1) := by decide +kernel
theorem dX4_at_6 : decode cX4_at 6 = .ok (.getfield 18, 3) := by decide +kernel
theorem dX4_at_9 : decode cX4_at 9 = .ok (.if_icmp .ge 16, 3) := by decide +kernel
theorem dX4_at_12 : decode cX4_at 12 = .ok (.aload_n 0, 1) := by decide +kernel
theorem dX4_at_13 : decode cX4_at 13 = .ok (.getfield 11, 3) := by decide +kernel
theorem dX4_at_16 : decode cX4_at 16 = .ok (.aload_n 0, 1) := by decide +kernel
theorem dX4_at_17 : decode cX4_at 17 = .ok (.iload_n 1, 1) := by decide +kernel
theorem dX4_at_18 : decode cX4_at 18 = .ok (.invokevirtual 22, 3) := by decide +kernel
theorem dX4_at_21 : decode cX4_at 21 = .ok (.aaload, 1) := by decide +kernel
theorem dX4_at_22 : decode cX4_at 22 = .ok (.goto 4, 3) := by decide +kernel
theorem dX4_at_25 : decode cX4_at 25 = .ok (.aconst_null, 1) := by decide +kernel
theorem dX4_at_26 : decode cX4_at 26 = .ok (.areturn, 1) := by decide +kernel
theorem dX4_fresh_0 : decode cX4_fresh 0 = .ok (.aload_n 0, 1) := by decide +kernel
theorem dX4_fresh_1 : decode cX4_fresh 1 = .ok (.invokevirtual 26, 3) := by decide +kernel
theorem dX4_fresh_4 : decode cX4_fresh 4 = .ok (.ifCond .eq 15, 3) := by decide +kernel
theorem dX4_fresh_7 : decode cX4_fresh 7 = .ok (.aload_n 0, 1) := by decide +kernel
theorem dX4_fresh_8 : decode cX4_fresh 8 = .ok (.dup, 1) := by decide +kernel
theorem dX4_fresh_9 : decode cX4_fresh 9 = .ok (.getfield 30, 3) := by decide +kernel
theorem dX4_fresh_12 : decode cX4_fresh 12 = .ok (.iconst 1, 1) := by decide +kernel
theorem dX4_fresh_13 : decode cX4_fresh 13 = .ok (.iadd, 1) := by decide +kernel
theorem dX4_fresh_14 : decode cX4_fresh 14 = .ok (.putfield 30, 3) := by decide +kernel
theorem dX4_fresh_17 : decode cX4_fresh 17 = .ok (.aconst_null, 1) := by decide +kernel
theorem dX4_fresh_18 : decode cX4_fresh 18 = .ok (.areturn, 1) := by decide +kernel
theorem dX4_fresh_19 : decode cX4_fresh 19 = .ok (.aload_n 0, 1) := by decide +kernel
theorem dX4_fresh_20 : decode cX4_fresh 20 = .ok (.dup, 1) := by decide +kernel
theorem dX4_fresh_21 : decode cX4_fresh 21 = .ok (.getfield 18, 3) := by decide +kernel
theorem dX4_fresh_24 : decode cX4_fresh 24 = .ok (.iconst 1, 1) := by decide +kernel
theorem dX4_fresh_25 : decode cX4_fresh 25 = .ok (.iadd, 1) := by decide +kernel
theorem dX4_fresh_26 : decode cX4_fresh 26 = .ok (.putfield 18, 3) := by decide +kernel
theorem dX4_fresh_29 : decode cX4_fresh 29 = .ok (.aload_n 0, 1) := by decide +kernel
theorem dX4_fresh_30 : decode cX4_fresh 30 = .ok (.getfield 11, 3) := by decide +kernel
theorem dX4_fresh_33 : decode cX4_fresh 33 = .ok (.aload_n 0, 1) := by decide +kernel
theorem dX4_fresh_34 : decode cX4_fresh 34 = .ok (.aload_n 0, 1) := by decide +kernel
theorem dX4_fresh_35 : decode cX4_fresh 35 = .ok (.getfield 18, 3) := by decide +kernel
theorem dX4_fresh_38 : decode cX4_fresh 38 = .ok (.iconst 1, 1) := by decide +kernel
theorem dX4_fresh_39 : decode cX4_fresh 39 = .ok (.isub, 1) := by decide +kernel
theorem dX4_fresh_40 : decode cX4_fresh 40 = .ok (.invokevirtual 22, 3) := by decide +kernel
theorem dX4_fresh_43 : decode cX4_fresh 43 = .ok (.aaload, 1) := by decide +kernel
theorem dX4_fresh_44 : decode cX4_fresh 44 = .ok (.areturn, 1) := by decide +kernel
theorem dX4_take_0 : decode cX4_take 0 = .ok (.aload_n 0, 1) := by decide +kernel
theorem dX4_take_1 : decode cX4_take 1 = .ok (.iload_n 1, 1) := by decide +kernel
theorem dX4_take_2 : decode cX4_take 2 = .ok (.invokevirtual 33, 3) := by decide +kernel
theorem dX4_take_5 : decode cX4_take 5 = .ok (.astore_n 2, 1) := by decide +kernel
theorem dX4_take_6 : decode cX4_take 6 = .ok (.aload_n 2, 1) := by decide +kernel
theorem dX4_take_7 : decode cX4_take 7 = .ok (.ifnonnull 5, 3) := by decide +kernel
theorem dX4_take_10 : decode cX4_take 10 = .ok (.aconst_null, 1) := by decide +kernel
theorem dX4_take_11 : decode cX4_take 11 = .ok (.areturn, 1) := by decide +kernel
theorem dX4_take_12 : decode cX4_take 12 = .ok (.iload_n 1, 1) := by decide +kernel
theorem dX4_take_13 : decode cX4_take 13 = .ok (.istore_n 3, 1) := by decide +kernel
theorem dX4_take_14 : decode cX4_take 14 = .ok (.iload_n 3, 1) := by decide +kernel
theorem dX4_take_15 : decode cX4_take 15 = .ok (.ifCond .le 31, 3) := by decide +kernel
theorem dX4_take_18 : decode cX4_take 18 = .ok (.aload_n 0, 1) := by decide +kernel
theorem dX4_take_19 : decode cX4_take 19 = .ok (.getfield 11, 3) := by decide +kernel
theorem dX4_take_22 : decode cX4_take 22 = .ok (.aload_n 0, 1) := by decide +kernel
theorem dX4_take_23 : decode cX4_take 23 = .ok (.iload_n 3, 1) := by decide +kernel
theorem dX4_take_24 : decode cX4_take 24 = .ok (.invokevirtual 22, 3) := by decide +kernel
theorem dX4_take_27 : decode cX4_take 27 = .ok (.aload_n 0, 1) := by decide +kernel
theorem dX4_take_28 : decode cX4_take 28 = .ok (.getfield 11, 3) := by decide +kernel
theorem dX4_take_31 : decode cX4_take 31 = .ok (.aload_n 0, 1) := by decide +kernel
theorem dX4_take_32 : decode cX4_take 32 = .ok (.iload_n 3, 1) := by decide +kernel
theorem dX4_take_33 : decode cX4_take 33 = .ok (.iconst 1, 1) := by decide +kernel
theorem dX4_take_34 : decode cX4_take 34 = .ok (.isub, 1) := by decide +kernel
theorem dX4_take_35 : decode cX4_take 35 = .ok (.invokevirtual 22, 3) := by decide +kernel
theorem dX4_take_38 : decode cX4_take 38 = .ok (.aaload, 1) := by decide +kernel
theorem dX4_take_39 : decode cX4_take 39 = .ok (.aastore, 1) := by decide +kernel
theorem dX4_take_40 : decode cX4_take 40 = .ok (.iinc 3 (-1), 3) := by decide +kernel
theorem dX4_take_43 : decode cX4_take 43 = .ok (.goto (-29), 3) := by decide +kernel
theorem dX4_take_46 : decode cX4_take 46 = .ok (.aload_n 0, 1) := by decide +kernel
theorem dX4_take_47 : decode cX4_take 47 = .ok (.getfield 11, 3) := by decide +kernel
theorem dX4_take_50 : decode cX4_take 50 = .ok (.aload_n 0, 1) := by decide +kernel
theorem dX4_take_51 : decode cX4_take 51 = .ok (.iconst 0, 1) := by decide +kernel
theorem dX4_take_52 : decode cX4_take 52 = .ok (.invokevirtual 22, 3) := by decide +kernel
theorem dX4_take_55 : decode cX4_take 55 = .ok (.aload_n 2, 1) := by decide +kernel
theorem dX4_take_56 : decode cX4_take 56 = .ok (.aastore, 1) := by decide +kernel
theorem dX4_take_57 : decode cX4_take 57 = .ok (.aload_n 0, 1) := by decide +kernel
theorem dX4_take_58 : decode cX4_take 58 = .ok (.aload_n 0, 1) := by decide +kernel
theorem dX4_take_59 : decode cX4_take 59 = .ok (.iconst 1, 1) := by decide +kernel
theorem dX4_take_60 : decode cX4_take 60 = .ok (.invokevirtual 22, 3) := by decide +kernel
theorem dX4_take_63 : decode cX4_take 63 = .ok (.putfield 37, 3) := by decide +kernel
theorem dX4_take_66 : decode cX4_take 66 = .ok (.aload_n 0, 1) := by decide +kernel
theorem dX4_take_67 : decode cX4_take 67 = .ok (.dup, 1) := by decide +kernel
theorem dX4_take_68 : decode cX4_take 68 = .ok (.getfield 18, 3) := by decide +kernel
theorem dX4_take_71 : decode cX4_take 71 = .ok (.iconst 1, 1) := by decide +kernel
theorem dX4_take_72 : decode cX4_take 72 = .ok (.isub, 1) := by decide +kernel
theorem dX4_take_73 : decode cX4_take 73 = .ok (.putfield 18, 3) := by decide +kernel
theorem dX4_take_76 : decode cX4_take 76 = .ok (.aload_n 2, 1) := by decide +kernel
theorem dX4_take_77 : decode cX4_take 77 = .ok (.areturn, 1) := by decide +kernel
theorem dX4_slot_0 : decode cX4_slot 0 = .ok (.aload_n 0, 1) := by decide +kernel
theorem dX4_slot_1 : decode cX4_slot 1 = .ok (.getfield 37, 3) := by decide +kernel
theorem dX4_slot_4 : decode cX4_slot 4 = .ok (.iload_n 1, 1) := by decide +kernel
theorem dX4_slot_5 : decode cX4_slot 5 = .ok (.iadd, 1) := by decide +kernel
theorem dX4_slot_6 : decode cX4_slot 6 = .ok (.bipush 127, 2) := by decide +kernel
theorem dX4_slot_8 : decode cX4_slot 8 = .ok (.iand, 1) := by decide +kernel
theorem dX4_slot_9 : decode cX4_slot 9 = .ok (.ireturn, 1) := by decide +kernel
theorem dX5_init_0 : decode cX5_init 0 = .ok (.aload_n 0, 1) := by decide +kernel
theorem dX5_init_1 : decode cX5_init 1 = .ok (.invokespecial 3, 3) := by decide +kernel
theorem dX5_init_4 : decode cX5_init 4 = .ok (.aload_n 0, 1) := by decide +kernel
theorem dX5_init_5 : decode cX5_init 5 = .ok (.bipush 6, 2) := by decide +kernel
theorem dX5_init_7 : decode cX5_init 7 = .ok (.newarray .long, 2) := by decide +kernel
theorem dX5_init_9 : decode cX5_init 9 = .ok (.putfield 9, 3) := by decide +kernel
theorem dX5_init_12 : decode cX5_init 12 = .ok (.aload_n 0, 1) := by decide +kernel
theorem dX5_init_13 : decode cX5_init 13 = .ok (.bipush 10, 2) := by decide +kernel
theorem dX5_init_15 : decode cX5_init 15 = .ok (.anewarray 15, 3) := by decide +kernel
theorem dX5_init_18 : decode cX5_init 18 = .ok (.putfield 17, 3) := by decide +kernel
theorem dX5_init_21 : decode cX5_init 21 = .ok (.iconst 0, 1) := by decide +kernel
theorem dX5_init_22 : decode cX5_init 22 = .ok (.istore_n 2, 1) := by decide +kernel
theorem dX5_init_23 : decode cX5_init 23 = .ok (.iload_n 2, 1) := by decide +kernel
theorem dX5_init_24 : decode cX5_init 24 = .ok (.bipush 10, 2) := by decide +kernel
theorem dX5_init_26 : decode cX5_init 26 = .ok (.if_icmp .ge 23, 3) := by decide +kernel
theorem dX5_init_29 : decode cX5_init 29 = .ok (.aload_n 0, 1) := by decide +kernel
theorem dX5_init_30 : decode cX5_init 30 = .ok (.getfield 17, 3) := by decide +kernel
theorem dX5_init_33 : decode cX5_init 33 = .ok (.iload_n 2, 1) := by decide +kernel
theorem dX5_init_34 : decode cX5_init 34 = .ok (.new 15, 3) := by decide +kernel
theorem dX5_init_37 : decode cX5_init 37 = .ok (.dup, 1) := by decide +kernel
theorem dX5_init_38 : decode cX5_init 38 = .ok (.iload_n 1, 1) := by decide +kernel
theorem dX5_init_39 : decode cX5_init 39 = .ok (.invokespecial 21, 3) := by decide +kernel
theorem dX5_init_42 : decode cX5_init 42 = .ok (.aastore, 1) := by decide +kernel
theorem dX5_init_43 : decode cX5_init 43 = .ok (.iinc 2 1, 3) := by decide +kernel
theorem dX5_init_46 : decode cX5_init 46 = .ok (.goto (-23), 3) := by decide +kernel
theorem dX5_init_49 : decode cX5_init 49 = .ok (.return_, 1) := by decide +kernel
theorem dX5_memoryOf_0 : decode cX5_memoryOf 0 = .ok (.iload_n 1, 1) := by decide +kernel
theorem dX5_memoryOf_1 : decode cX5_memoryOf 1 = .ok (.ifCond .lt 21, 3) := by decide +kernel
theorem dX5_memoryOf_4 : decode cX5_memoryOf 4 = .ok (.iload_n 1, 1) := by decide +kernel
theorem dX5_memoryOf_5 : decode cX5_memoryOf 5 = .ok (.aload_n 0, 1) := by decide +kernel
theorem dX5_memoryOf_6 : decode cX5_memoryOf 6 = .ok (.getfield 17, 3) := by decide +kernel
theorem dX5_memoryOf_9 : decode cX5_memoryOf 9 = .ok (.arraylength, 1) := by decide +kernel
theorem dX5_memoryOf_10 : decode cX5_memoryOf 10 = .ok (.if_icmp .ge 12, 3) := by decide +kernel
theorem dX5_memoryOf_13 : decode cX5_memoryOf 13 = .ok (.aload_n 0, 1) := by decide +kernel
theorem dX5_memoryOf_14 : decode cX5_memoryOf 14 = .ok (.getfield 17, 3) := by decide +kernel
theorem dX5_memoryOf_17 : decode cX5_memoryOf 17 = .ok (.iload_n 1, 1) := by decide +kernel
theorem dX5_memoryOf_18 : decode cX5_memoryOf 18 = .ok (.aaload, 1) := by decide +kernel
theorem dX5_memoryOf_19 : decode cX5_memoryOf 19 = .ok (.goto 4, 3) := by decide +kernel
theorem dX5_memoryOf_22 : decode cX5_memoryOf 22 = .ok (.aconst_null, 1) := by decide +kernel
theorem dX5_memoryOf_23 : decode cX5_memoryOf 23 = .ok (.areturn, 1) := by decide +kernel
theorem dX5_has_0 : decode cX5_has 0 = .ok (.iload_n 1, 1) := by decide +kernel
theorem dX5_has_1 : decode cX5_has 1 = .ok (.ifCond .lt 21, 3) := by decide +kernel
theorem dX5_has_4 : decode cX5_has 4 = .ok (.iload_n 1, 1) := by decide +kernel
theorem dX5_has_5 : decode cX5_has 5 = .ok (.aload_n 0, 1) := by decide +kernel
theorem dX5_has_6 : decode cX5_has 6 = .ok (.getfield 9, 3) := by decide +kernel
theorem dX5_has_9 : decode cX5_has 9 = .ok (.arraylength, 1) := by decide +kernel
theorem dX5_has_10 : decode cX5_has 10 = .ok (.if_icmp .ge 12, 3) := by decide +kernel
theorem dX5_has_13 : decode cX5_has 13 = .ok (.aload_n 0, 1) := by decide +kernel
theorem dX5_has_14 : decode cX5_has 14 = .ok (.getfield 9, 3) := by decide +kernel
theorem dX5_has_17 : decode cX5_has 17 = .ok (.iload_n 1, 1) := by decide +kernel
theorem dX5_has_18 : decode cX5_has 18 = .ok (.laload, 1) := by decide +kernel
theorem dX5_has_19 : decode cX5_has 19 = .ok (.goto 4, 3) := by decide +kernel
theorem dX5_has_22 : decode cX5_has 22 = .ok (.lconst 0, 1) := by decide +kernel
theorem dX5_has_23 : decode cX5_has 23 = .ok (.lreturn, 1) := by decide +kernel
theorem dX5_lets_0 : decode cX5_lets 0 = .ok (.aload_n 0, 1) := by decide +kernel
theorem dX5_lets_1 : decode cX5_lets 1 = .ok (.iload_n 1, 1) := by decide +kernel
theorem dX5_lets_2 : decode cX5_lets 2 = .ok (.invokevirtual 24, 3) := by decide +kernel
theorem dX5_lets_5 : decode cX5_lets 5 = .ok (.lload_n 2, 1) := by decide +kernel
theorem dX5_lets_6 : decode cX5_lets 6 = .ok (.ladd, 1) := by decide +kernel
theorem dX5_lets_7 : decode cX5_lets 7 = .ok (.lstore 4, 2) := by decide +kernel
theorem dX5_lets_9 : decode cX5_lets 9 = .ok (.lload 4, 2) := by decide +kernel
theorem dX5_lets_11 : decode cX5_lets 11 = .ok (.lconst 0, 1) := by decide +kernel
theorem dX5_lets_12 : decode cX5_lets 12 = .ok (.lcmp, 1) := by decide +kernel
theorem dX5_lets_13 : decode cX5_lets 13 = .ok (.ifCond .lt 16, 3) := by decide +kernel
theorem dX5_lets_16 : decode cX5_lets 16 = .ok (.lload 4, 2) := by decide +kernel
theorem dX5_lets_18 : decode cX5_lets 18 = .ok (.ldc2_w 28, 3) := by decide +kernel
theorem dX5_lets_21 : decode cX5_lets 21 = .ok (.lcmp, 1) := by decide +kernel
theorem dX5_lets_22 : decode cX5_lets 22 = .ok (.ifCond .gt 7, 3) := by decide +kernel
theorem dX5_lets_25 : decode cX5_lets 25 = .ok (.iconst 1, 1) := by decide +kernel
theorem dX5_lets_26 : decode cX5_lets 26 = .ok (.goto 4, 3) := by decide +kernel
theorem dX5_lets_29 : decode cX5_lets 29 = .ok (.iconst 0, 1) := by decide +kernel
theorem dX5_lets_30 : decode cX5_lets 30 = .ok (.ireturn, 1) := by decide +kernel
theorem dX5_change_0 : decode cX5_change 0 = .ok (.iload_n 1, 1) := by decide +kernel
theorem dX5_change_1 : decode cX5_change 1 = .ok (.ifCond .lt 22, 3) := by decide +kernel
theorem dX5_change_4 : decode cX5_change 4 = .ok (.iload_n 1, 1) := by decide +kernel
theorem dX5_change_5 : decode cX5_change 5 = .ok (.aload_n 0, 1) := by decide +kernel
theorem dX5_change_6 : decode cX5_change 6 = .ok (.getfield 9, 3) := by decide +kernel
theorem dX5_change_9 : decode cX5_change 9 = .ok (.arraylength, 1) := by decide +kernel
theorem dX5_change_10 : decode cX5_change 10 = .ok (.if_icmp .ge 13, 3) := by decide +kernel
theorem dX5_change_13 : decode cX5_change 13 = .ok (.aload_n 0, 1) := by decide +kernel
theorem dX5_change_14 : decode cX5_change 14 = .ok (.getfield 9, 3) := by decide +kernel
theorem dX5_change_17 : decode cX5_change 17 = .ok (.iload_n 1, 1) := by decide +kernel
theorem dX5_change_18 : decode cX5_change 18 = .ok (.dup2, 1) := by decide +kernel
theorem dX5_change_19 : decode cX5_change 19 = .ok (.laload, 1) := by decide +kernel
theorem dX5_change_20 : decode cX5_change 20 = .ok (.lload_n 2, 1) := by decide +kernel
theorem dX5_change_21 : decode cX5_change 21 = .ok (.ladd, 1) := by decide +kernel
theorem dX5_change_22 : decode cX5_change 22 = .ok (.lastore, 1) := by decide +kernel
theorem dX5_change_23 : decode cX5_change 23 = .ok (.return_, 1) := by decide +kernel
theorem dX6_init_0 : decode cX6_init 0 = .ok (.aload_n 0, 1) := by decide +kernel
theorem dX6_init_1 : decode cX6_init 1 = .ok (.invokespecial 1, 3) := by decide +kernel
theorem dX6_init_4 : decode cX6_init 4 = .ok (.aload_n 0, 1) := by decide +kernel
theorem dX6_init_5 : decode cX6_init 5 = .ok (.bipush 10, 2) := by decide +kernel
theorem dX6_init_7 : decode cX6_init 7 = .ok (.anewarray 9, 3) := by decide +kernel
theorem dX6_init_10 : decode cX6_init 10 = .ok (.putfield 11, 3) := by decide +kernel
theorem dX6_init_13 : decode cX6_init 13 = .ok (.aload_n 0, 1) := by decide +kernel
theorem dX6_init_14 : decode cX6_init 14 = .ok (.iconst 4, 1) := by decide +kernel
theorem dX6_init_15 : decode cX6_init 15 = .ok (.anewarray 15, 3) := by decide +kernel
theorem dX6_init_18 : decode cX6_init 18 = .ok (.putfield 17, 3) := by decide +kernel
theorem dX6_init_21 : decode cX6_init 21 = .ok (.aload_n 0, 1) := by decide +kernel
theorem dX6_init_22 : decode cX6_init 22 = .ok (.sipush 300, 3) := by decide +kernel
theorem dX6_init_25 : decode cX6_init 25 = .ok (.anewarray 21, 3) := by decide +kernel
theorem dX6_init_28 : decode cX6_init 28 = .ok (.putfield 23, 3) := by decide +kernel
theorem dX6_init_31 : decode cX6_init 31 = .ok (.aload_n 0, 1) := by decide +kernel
theorem dX6_init_32 : decode cX6_init 32 = .ok (.new 27, 3) := by decide +kernel
theorem dX6_init_35 : decode cX6_init 35 = .ok (.dup, 1) := by decide +kernel
theorem dX6_init_36 : decode cX6_init 36 = .ok (.invokespecial 29, 3) := by decide +kernel
theorem dX6_init_39 : decode cX6_init 39 = .ok (.putfield 30, 3) := by decide +kernel
theorem dX6_init_42 : decode cX6_init 42 = .ok (.aload_n 0, 1) := by decide +kernel
theorem dX6_init_43 : decode cX6_init 43 = .ok (.iconst 1, 1) := by decide +kernel
theorem dX6_init_44 : decode cX6_init 44 = .ok (.bipush 16, 2) := by decide +kernel
theorem dX6_init_46 : decode cX6_init 46 = .ok (.iload_n 1, 1) := by decide +kernel
theorem dX6_init_47 : decode cX6_init 47 = .ok (.invokestatic 34, 3) := by decide +kernel
theorem dX6_init_50 : decode cX6_init 50 = .ok (.invokestatic 40, 3) := by decide +kernel
theorem dX6_init_53 : decode cX6_init 53 = .ok (.putfield 43, 3) := by decide +kernel
theorem dX6_init_56 : decode cX6_init 56 = .ok (.iconst 0, 1) := by decide +kernel
theorem dX6_init_57 : decode cX6_init 57 = .ok (.istore_n 2, 1) := by decide +kernel
theorem dX6_init_58 : decode cX6_init 58 = .ok (.iload_n 2, 1) := by decide +kernel
theorem dX6_init_59 : decode cX6_init 59 = .ok (.bipush 10, 2) := by decide +kernel
theorem dX6_init_61 : decode cX6_init 61 = .ok (.if_icmp .ge 23, 3) := by decide +kernel
theorem dX6_init_64 : decode cX6_init 64 = .ok (.aload_n 0, 1) := by decide +kernel
theorem dX6_init_65 : decode cX6_init 65 = .ok (.getfield 11, 3) := by decide +kernel
theorem dX6_init_68 : decode cX6_init 68 = .ok (.iload_n 2, 1) := by decide +kernel
theorem dX6_init_69 : decode cX6_init 69 = .ok (.new 9, 3) := by decide +kernel
theorem dX6_init_72 : decode cX6_init 72 = .ok (.dup, 1) := by decide +kernel
theorem dX6_init_73 : decode cX6_init 73 = .ok (.iload_n 2, 1) := by decide +kernel
theorem dX6_init_74 : decode cX6_init 74 = .ok (.invokespecial 47, 3) := by decide +kernel
theorem dX6_init_77 : decode cX6_init 77 = .ok (.aastore, 1) := by decide +kernel
theorem dX6_init_78 : decode cX6_init 78 = .ok (.iinc 2 1, 3) := by decide +kernel
theorem dX6_init_81 : decode cX6_init 81 = .ok (.goto (-23), 3) := by decide +kernel
theorem dX6_init_84 : decode cX6_init 84 = .ok (.iconst 0, 1) := by decide +kernel
theorem dX6_init_85 : decode cX6_init 85 = .ok (.istore_n 2, 1) := by decide +kernel
theorem dX6_init_86 : decode cX6_init 86 = .ok (.iload_n 2, 1) := by decide +kernel
theorem dX6_init_87 : decode cX6_init 87 = .ok (.iconst 4, 1) := by decide +kernel
theorem dX6_init_88 : decode cX6_init 88 = .ok (.if_icmp .ge 26, 3) := by decide +kernel
theorem dX6_init_91 : decode cX6_init 91 = .ok (.aload_n 0, 1) := by decide +kernel
theorem dX6_init_92 : decode cX6_init 92 = .ok (.getfield 17, 3) := by decide +kernel
theorem dX6_init_95 : decode cX6_init 95 = .ok (.iload_n 2, 1) := by decide +kernel
theorem dX6_init_96 : decode cX6_init 96 = .ok (.new 15, 3) := by decide +kernel
theorem dX6_init_99 : decode cX6_init 99 = .ok (.dup, 1) := by decide +kernel
theorem dX6_init_100 : decode cX6_init 100 = .ok (.aload_n 0, 1) := by decide +kernel
theorem dX6_init_101 : decode cX6_init 101 = .ok (.getfield 43, 3) := by decide +kernel
theorem dX6_init_104 : decode cX6_init 104 = .ok (.invokespecial 50, 3) := by decide +kernel
theorem dX6_init_107 : decode cX6_init 107 = .ok (.aastore, 1) := by decide +kernel
theorem dX6_init_108 : decode cX6_init 108 = .ok (.iinc 2 1, 3) := by decide +kernel
theorem dX6_init_111 : decode cX6_init 111 = .ok (.goto (-25), 3) := by decide +kernel
theorem dX6_init_114 : decode cX6_init 114 = .ok (.return_, 1) := by decide +kernel
theorem dX6_ask_0 : decode cX6_ask 0 = .ok (.iload_n 1, 1) := by decide +kernel
theorem dX6_ask_1 : decode cX6_ask 1 = .ok (.bipush 6, 2) := by decide +kernel
theorem dX6_ask_3 : decode cX6_ask 3 = .ok (.if_icmp .ge 20, 3) := by decide +kernel
theorem dX6_ask_6 : decode cX6_ask 6 = .ok (.aload_n 0, 1) := by decide +kernel
theorem dX6_ask_7 : decode cX6_ask 7 = .ok (.iload_n 2, 1) := by decide +kernel
theorem dX6_ask_8 : decode cX6_ask 8 = .ok (.invokevirtual 51, 3) := by decide +kernel
theorem dX6_ask_11 : decode cX6_ask 11 = .ok (.ifnull 12, 3) := by decide +kernel
theorem dX6_ask_14 : decode cX6_ask 14 = .ok (.aload_n 0, 1) := by decide +kernel
theorem dX6_ask_15 : decode cX6_ask 15 = .ok (.iload 6, 2) := by decide +kernel
theorem dX6_ask_17 : decode cX6_ask 17 = .ok (.invokevirtual 51, 3) := by decide +kernel
theorem dX6_ask_20 : decode cX6_ask 20 = .ok (.ifnonnull 6, 3) := by decide +kernel
theorem dX6_ask_23 : decode cX6_ask 23 = .ok (.ldc 55, 2) := by decide +kernel
theorem dX6_ask_25 : decode cX6_ask 25 = .ok (.ireturn, 1) := by decide +kernel
theorem dX6_ask_26 : decode cX6_ask 26 = .ok (.iload 4, 2) := by decide +kernel
theorem dX6_ask_28 : decode cX6_ask 28 = .ok (.invokestatic 56, 3) := by decide +kernel
theorem dX6_ask_31 : decode cX6_ask 31 = .ok (.ifCond .eq 20, 3) := by decide +kernel
theorem dX6_ask_34 : decode cX6_ask 34 = .ok (.iload 5, 2) := by decide +kernel
theorem dX6_ask_36 : decode cX6_ask 36 = .ok (.invokestatic 56, 3) := by decide +kernel
theorem dX6_ask_39 : decode cX6_ask 39 = .ok (.ifCond .eq 12, 3) := by decide +kernel
theorem dX6_ask_42 : decode cX6_ask 42 = .ok (.iload_n 3, 1) := by decide +kernel
theorem dX6_ask_43 : decode cX6_ask 43 = .ok (.iload 7, 2) := by decide +kernel
theorem dX6_ask_45 : decode cX6_ask 45 = .ok (.invokestatic 60, 3) := by decide +kernel
theorem dX6_ask_48 : decode cX6_ask 48 = .ok (.ifCond .ne 6, 3) := by decide +kernel
theorem dX6_ask_51 : decode cX6_ask 51 = .ok (.ldc 55, 2) := by decide +kernel
theorem dX6_ask_53 : decode cX6_ask 53 = .ok (.ireturn, 1) := by decide +kernel
theorem dX6_ask_54 : decode cX6_ask 54 = .ok (.aload_n 0, 1) := by decide +kernel
theorem dX6_ask_55 : decode cX6_ask 55 = .ok (.iload_n 1, 1) := by decide +kernel
theorem dX6_ask_56 : decode cX6_ask 56 = .ok (.invokevirtual 64, 3) := by decide +kernel
theorem dX6_ask_59 : decode cX6_ask 59 = .ok (.astore 8, 2) := by decide +kernel
theorem dX6_ask_61 : decode cX6_ask 61 = .ok (.aload 8, 2) := by decide +kernel
theorem dX6_ask_63 : decode cX6_ask 63 = .ok (.ifnonnull 6, 3) := by decide +kernel
theorem dX6_ask_66 : decode cX6_ask 66 = .ok (.ldc 55, 2) := by decide +kernel
theorem dX6_ask_68 : decode cX6_ask 68 = .ok (.ireturn, 1) := by decide +kernel
theorem dX6_ask_69 : decode cX6_ask 69 = .ok (.aload 8, 2) := by decide +kernel
theorem dX6_ask_71 : decode cX6_ask 71 = .ok (.getfield 68, 3) := by decide +kernel
theorem dX6_ask_74 : decode cX6_ask 74 = .ok (.ifCond .ne 6, 3) := by decide +kernel
theorem dX6_ask_77 : decode cX6_ask 77 = .ok (.ldc 72, 2) := by decide +kernel
theorem dX6_ask_79 : decode cX6_ask 79 = .ok (.ireturn, 1) := by decide +kernel
theorem dX6_ask_80 : decode cX6_ask 80 = .ok (.aload_n 0, 1) := by decide +kernel
theorem dX6_ask_81 : decode cX6_ask 81 = .ok (.aload 8, 2) := by decide +kernel
theorem dX6_ask_83 : decode cX6_ask 83 = .ok (.iload_n 2, 1) := by decide +kernel
theorem dX6_ask_84 : decode cX6_ask 84 = .ok (.iload_n 3, 1) := by decide +kernel
theorem dX6_ask_85 : decode cX6_ask 85 = .ok (.iload 4, 2) := by decide +kernel
theorem dX6_ask_87 : decode cX6_ask 87 = .ok (.iload 5, 2) := by decide +kernel
theorem dX6_ask_89 : decode cX6_ask 89 = .ok (.iload 6, 2) := by decide +kernel
theorem dX6_ask_91 : decode cX6_ask 91 = .ok (.iload 7, 2) := by decide +kernel
theorem dX6_ask_93 : decode cX6_ask 93 = .ok (.invokevirtual 73, 3) := by decide +kernel
theorem dX6_ask_96 : decode cX6_ask 96 = .ok (.astore 9, 2) := by decide +kernel
theorem dX6_ask_98 : decode cX6_ask 98 = .ok (.aload 9, 2) := by decide +kernel
theorem dX6_ask_100 : decode cX6_ask 100 = .ok (.ifnonnull 6, 3) := by decide +kernel
theorem dX6_ask_103 : decode cX6_ask 103 = .ok (.ldc 77, 2) := by decide +kernel
theorem dX6_ask_105 : decode cX6_ask 105 = .ok (.ireturn, 1) := by decide +kernel
theorem dX6_ask_106 : decode cX6_ask 106 = .ok (.aload_n 0, 1) := by decide +kernel
theorem dX6_ask_107 : decode cX6_ask 107 = .ok (.aload 9, 2) := by decide +kernel
theorem dX6_ask_109 : decode cX6_ask 109 = .ok (.iconst 1, 1) := by decide +kernel
theorem dX6_ask_110 : decode cX6_ask 110 = .ok (.invokevirtual 78, 3) := by decide +kernel
theorem dX6_ask_113 : decode cX6_ask 113 = .ok (.pop, 1) := by decide +kernel
theorem dX6_ask_114 : decode cX6_ask 114 = .ok (.aload 9, 2) := by decide +kernel
theorem dX6_ask_116 : decode cX6_ask 116 = .ok (.getfield 82, 3) := by decide +kernel
theorem dX6_ask_119 : decode cX6_ask 119 = .ok (.ireturn, 1) := by decide +kernel
theorem dX6_again_0 : decode cX6_again 0 = .ok (.aload_n 0, 1) := by decide +kernel
theorem dX6_again_1 : decode cX6_again 1 = .ok (.iload_n 1, 1) := by decide +kernel
theorem dX6_again_2 : decode cX6_again 2 = .ok (.invokevirtual 85, 3) := by decide +kernel
theorem dX6_again_5 : decode cX6_again 5 = .ok (.astore_n 2, 1) := by decide +kernel
theorem dX6_again_6 : decode cX6_again 6 = .ok (.aload_n 2, 1) := by decide +kernel
theorem dX6_again_7 : decode cX6_again 7 = .ok (.ifnonnull 6, 3) := by decide +kernel
theorem dX6_again_10 : decode cX6_again 10 = .ok (.ldc 55, 2) := by decide +kernel
theorem dX6_again_12 : decode cX6_again 12 = .ok (.ireturn, 1) := by decide +kernel
theorem dX6_again_13 : decode cX6_again 13 = .ok (.aload_n 0, 1) := by decide +kernel
theorem dX6_again_14 : decode cX6_again 14 = .ok (.aload_n 2, 1) := by decide +kernel
theorem dX6_again_15 : decode cX6_again 15 = .ok (.getfield 89, 3) := by decide +kernel
theorem dX6_again_18 : decode cX6_again 18 = .ok (.invokevirtual 64, 3) := by decide +kernel
theorem dX6_again_21 : decode cX6_again 21 = .ok (.astore_n 3, 1) := by decide +kernel
theorem dX6_again_22 : decode cX6_again 22 = .ok (.aload_n 3, 1) := by decide +kernel
theorem dX6_again_23 : decode cX6_again 23 = .ok (.ifnull 17, 3) := by decide +kernel
theorem dX6_again_26 : decode cX6_again 26 = .ok (.aload_n 3, 1) := by decide +kernel
theorem dX6_again_27 : decode cX6_again 27 = .ok (.getfield 68, 3) := by decide +kernel
theorem dX6_again_30 : decode cX6_again 30 = .ok (.ifCond .eq 10, 3) := by decide +kernel
theorem dX6_again_33 : decode cX6_again 33 = .ok (.aload_n 2, 1) := by decide +kernel
theorem dX6_again_34 : decode cX6_again 34 = .ok (.getfield 92, 3) := by decide +kernel
theorem dX6_again_37 : decode cX6_again 37 = .ok (.ifCond .eq 6, 3) := by decide +kernel
theorem dX6_again_40 : decode cX6_again 40 = .ok (.ldc 72, 2) := by decide +kernel
theorem dX6_again_42 : decode cX6_again 42 = .ok (.ireturn, 1) := by decide +kernel
theorem dX6_again_43 : decode cX6_again 43 = .ok (.aload_n 0, 1) := by decide +kernel
theorem dX6_again_44 : decode cX6_again 44 = .ok (.getfield 30, 3) := by decide +kernel
theorem dX6_again_47 : decode cX6_again 47 = .ok (.invokevirtual 95, 3) := by decide +kernel
theorem dX6_again_50 : decode cX6_again 50 = .ok (.ifCond .eq 6, 3) := by decide +kernel
theorem dX6_again_53 : decode cX6_again 53 = .ok (.ldc 77, 2) := by decide +kernel
theorem dX6_again_55 : decode cX6_again 55 = .ok (.ireturn, 1) := by decide +kernel
theorem dX6_again_56 : decode cX6_again 56 = .ok (.aload_n 0, 1) := by decide +kernel
theorem dX6_again_57 : decode cX6_again 57 = .ok (.aload_n 2, 1) := by decide +kernel
theorem dX6_again_58 : decode cX6_again 58 = .ok (.iconst 1, 1) := by decide +kernel
theorem dX6_again_59 : decode cX6_again 59 = .ok (.invokevirtual 78, 3) := by decide +kernel
theorem dX6_again_62 : decode cX6_again 62 = .ok (.pop, 1) := by decide +kernel
theorem dX6_again_63 : decode cX6_again 63 = .ok (.aload_n 0, 1) := by decide +kernel
theorem dX6_again_64 : decode cX6_again 64 = .ok (.getfield 30, 3) := by decide +kernel
theorem dX6_again_67 : decode cX6_again 67 = .ok (.getfield 99, 3) := by decide +kernel
theorem dX6_again_70 : decode cX6_again 70 = .ok (.ireturn, 1) := by decide +kernel
theorem dX6_told_0 : decode cX6_told 0 = .ok (.aload_n 0, 1) := by decide +kernel
theorem dX6_told_1 : decode cX6_told 1 = .ok (.iload_n 1, 1) := by decide +kernel
theorem dX6_told_2 : decode cX6_told 2 = .ok (.invokevirtual 85, 3) := by decide +kernel
theorem dX6_told_5 : decode cX6_told 5 = .ok (.astore_n 3, 1) := by decide +kernel
theorem dX6_told_6 : decode cX6_told 6 = .ok (.aload_n 3, 1) := by decide +kernel
theorem dX6_told_7 : decode cX6_told 7 = .ok (.ifnonnull 6, 3) := by decide +kernel
theorem dX6_told_10 : decode cX6_told 10 = .ok (.ldc 55, 2) := by decide +kernel
theorem dX6_told_12 : decode cX6_told 12 = .ok (.ireturn, 1) := by decide +kernel
theorem dX6_told_13 : decode cX6_told 13 = .ok (.iload_n 2, 1) := by decide +kernel
theorem dX6_told_14 : decode cX6_told 14 = .ok (.tableswitch 92 0 7 #[46, 51, 56, 61, 66, 71, 76, 84], 46) := by decide +kernel
theorem dX6_told_60 : decode cX6_told 60 = .ok (.aload_n 3, 1) := by decide +kernel
theorem dX6_told_61 : decode cX6_told 61 = .ok (.getfield 89, 3) := by decide +kernel
theorem dX6_told_64 : decode cX6_told 64 = .ok (.ireturn, 1) := by decide +kernel
theorem dX6_told_65 : decode cX6_told 65 = .ok (.aload_n 3, 1) := by decide +kernel
theorem dX6_told_66 : decode cX6_told 66 = .ok (.getfield 102, 3) := by decide +kernel
theorem dX6_told_69 : decode cX6_told 69 = .ok (.ireturn, 1) := by decide +kernel
theorem dX6_told_70 : decode cX6_told 70 = .ok (.aload_n 3, 1) := by decide +kernel
theorem dX6_told_71 : decode cX6_told 71 = .ok (.getfield 105, 3) := by decide +kernel
theorem dX6_told_74 : decode cX6_told 74 = .ok (.ireturn, 1) := by decide +kernel
theorem dX6_told_75 : decode cX6_told 75 = .ok (.aload_n 3, 1) := by decide +kernel
theorem dX6_told_76 : decode cX6_told 76 = .ok (.getfield 108, 3) := by decide +kernel
theorem dX6_told_79 : decode cX6_told 79 = .ok (.ireturn, 1) := by decide +kernel
theorem dX6_told_80 : decode cX6_told 80 = .ok (.aload_n 3, 1) := by decide +kernel
theorem dX6_told_81 : decode cX6_told 81 = .ok (.getfield 111, 3) := by decide +kernel
theorem dX6_told_84 : decode cX6_told 84 = .ok (.ireturn, 1) := by decide +kernel
theorem dX6_told_85 : decode cX6_told 85 = .ok (.aload_n 3, 1) := by decide +kernel
theorem dX6_told_86 : decode cX6_told 86 = .ok (.getfield 92, 3) := by decide +kernel
theorem dX6_told_89 : decode cX6_told 89 = .ok (.ireturn, 1) := by decide +kernel
theorem dX6_told_90 : decode cX6_told 90 = .ok (.aload_n 3, 1) := by decide +kernel
theorem dX6_told_91 : decode cX6_told 91 = .ok (.getfield 114, 3) := by decide +kernel
theorem dX6_told_94 : decode cX6_told 94 = .ok (.invokestatic 118, 3) := by decide +kernel
theorem dX6_told_97 : decode cX6_told 97 = .ok (.ireturn, 1) := by decide +kernel
theorem dX6_told_98 : decode cX6_told 98 = .ok (.aload_n 3, 1) := by decide +kernel
theorem dX6_told_99 : decode cX6_told 99 = .ok (.getfield 122, 3) := by decide +kernel
theorem dX6_told_102 : decode cX6_told 102 = .ok (.invokestatic 118, 3) := by decide +kernel
theorem dX6_told_105 : decode cX6_told 105 = .ok (.ireturn, 1) := by decide +kernel
theorem dX6_told_106 : decode cX6_told 106 = .ok (.ldc 55, 2) := by decide +kernel
theorem dX6_told_108 : decode cX6_told 108 = .ok (.ireturn, 1) := by decide +kernel
theorem dX6_answer_0 : decode cX6_answer 0 = .ok (.aload_n 0, 1) := by decide +kernel
theorem dX6_answer_1 : decode cX6_answer 1 = .ok (.iload_n 1, 1) := by decide +kernel
theorem dX6_answer_2 : decode cX6_answer 2 = .ok (.invokevirtual 85, 3) := by decide +kernel
theorem dX6_answer_5 : decode cX6_answer 5 = .ok (.astore_n 2, 1) := by decide +kernel
theorem dX6_answer_6 : decode cX6_answer 6 = .ok (.aload_n 2, 1) := by decide +kernel
theorem dX6_answer_7 : decode cX6_answer 7 = .ok (.ifnonnull 7, 3) := by decide +kernel
theorem dX6_answer_10 : decode cX6_answer 10 = .ok (.ldc2_w 125, 3) := by decide +kernel
theorem dX6_answer_13 : decode cX6_answer 13 = .ok (.lreturn, 1) := by decide +kernel
theorem dX6_answer_14 : decode cX6_answer 14 = .ok (.aload_n 2, 1) := by decide +kernel
theorem dX6_answer_15 : decode cX6_answer 15 = .ok (.getfield 92, 3) := by decide +kernel
theorem dX6_answer_18 : decode cX6_answer 18 = .ok (.iconst 1, 1) := by decide +kernel
theorem dX6_answer_19 : decode cX6_answer 19 = .ok (.if_icmp .ne 10, 3) := by decide +kernel
theorem dX6_answer_22 : decode cX6_answer 22 = .ok (.aload_n 2, 1) := by decide +kernel
theorem dX6_answer_23 : decode cX6_answer 23 = .ok (.getfield 127, 3) := by decide +kernel
theorem dX6_answer_26 : decode cX6_answer 26 = .ok (.goto 6, 3) := by decide +kernel
theorem dX6_answer_29 : decode cX6_answer 29 = .ok (.ldc2_w 131, 3) := by decide +kernel
theorem dX6_answer_32 : decode cX6_answer 32 = .ok (.lreturn, 1) := by decide +kernel
theorem dX6_name_0 : decode cX6_name 0 = .ok (.aload_n 0, 1) := by decide +kernel
theorem dX6_name_1 : decode cX6_name 1 = .ok (.iload_n 1, 1) := by decide +kernel
theorem dX6_name_2 : decode cX6_name 2 = .ok (.invokevirtual 64, 3) := by decide +kernel
theorem dX6_name_5 : decode cX6_name 5 = .ok (.astore_n 3, 1) := by decide +kernel
theorem dX6_name_6 : decode cX6_name 6 = .ok (.aload_n 3, 1) := by decide +kernel
theorem dX6_name_7 : decode cX6_name 7 = .ok (.ifnonnull 6, 3) := by decide +kernel
theorem dX6_name_10 : decode cX6_name 10 = .ok (.ldc 55, 2) := by decide +kernel
theorem dX6_name_12 : decode cX6_name 12 = .ok (.ireturn, 1) := by decide +kernel
theorem dX6_name_13 : decode cX6_name 13 = .ok (.iload_n 2, 1) := by decide +kernel
theorem dX6_name_14 : decode cX6_name 14 = .ok (.tableswitch 41 0 2 #[26, 31, 36], 26) := by decide +kernel
theorem dX6_name_40 : decode cX6_name 40 = .ok (.aload_n 3, 1) := by decide +kernel
theorem dX6_name_41 : decode cX6_name 41 = .ok (.invokevirtual 133, 3) := by decide +kernel
theorem dX6_name_44 : decode cX6_name 44 = .ok (.ireturn, 1) := by decide +kernel
theorem dX6_name_45 : decode cX6_name 45 = .ok (.aload_n 3, 1) := by decide +kernel
theorem dX6_name_46 : decode cX6_name 46 = .ok (.getfield 137, 3) := by decide +kernel
theorem dX6_name_49 : decode cX6_name 49 = .ok (.ireturn, 1) := by decide +kernel
theorem dX6_name_50 : decode cX6_name 50 = .ok (.aload_n 3, 1) := by decide +kernel
theorem dX6_name_51 : decode cX6_name 51 = .ok (.getfield 138, 3) := by decide +kernel
theorem dX6_name_54 : decode cX6_name 54 = .ok (.ireturn, 1) := by decide +kernel
theorem dX6_name_55 : decode cX6_name 55 = .ok (.ldc 55, 2) := by decide +kernel
theorem dX6_name_57 : decode cX6_name 57 = .ok (.ireturn, 1) := by decide +kernel
theorem dX6_deliver_0 : decode cX6_deliver 0 = .ok (.aload_n 0, 1) := by decide +kernel
theorem dX6_deliver_1 : decode cX6_deliver 1 = .ok (.getfield 30, 3) := by decide +kernel
theorem dX6_deliver_4 : decode cX6_deliver 4 = .ok (.iload_n 1, 1) := by decide +kernel
theorem dX6_deliver_5 : decode cX6_deliver 5 = .ok (.invokevirtual 141, 3) := by decide +kernel
theorem dX6_deliver_8 : decode cX6_deliver 8 = .ok (.ifnull 12, 3) := by decide +kernel
theorem dX6_deliver_11 : decode cX6_deliver 11 = .ok (.iload_n 2, 1) := by decide +kernel
theorem dX6_deliver_12 : decode cX6_deliver 12 = .ok (.ifCond .lt 8, 3) := by decide +kernel
theorem dX6_deliver_15 : decode cX6_deliver 15 = .ok (.iload_n 2, 1) := by decide +kernel
theorem dX6_deliver_16 : decode cX6_deliver 16 = .ok (.iconst 3, 1) := by decide +kernel
theorem dX6_deliver_17 : decode cX6_deliver 17 = .ok (.if_icmp .le 6, 3) := by decide +kernel
theorem dX6_deliver_20 : decode cX6_deliver 20 = .ok (.ldc 55, 2) := by decide +kernel
theorem dX6_deliver_22 : decode cX6_deliver 22 = .ok (.ireturn, 1) := by decide +kernel
theorem dX6_deliver_23 : decode cX6_deliver 23 = .ok (.aload_n 0, 1) := by decide +kernel
theorem dX6_deliver_24 : decode cX6_deliver 24 = .ok (.iload_n 1, 1) := by decide +kernel
theorem dX6_deliver_25 : decode cX6_deliver 25 = .ok (.iload_n 2, 1) := by decide +kernel
theorem dX6_deliver_26 : decode cX6_deliver 26 = .ok (.invokevirtual 145, 3) := by decide +kernel
theorem dX6_deliver_29 : decode cX6_deliver 29 = .ok (.ireturn, 1) := by decide +kernel
theorem dX6_lose_0 : decode cX6_lose 0 = .ok (.aload_n 0, 1) := by decide +kernel
theorem dX6_lose_1 : decode cX6_lose 1 = .ok (.getfield 30, 3) := by decide +kernel
theorem dX6_lose_4 : decode cX6_lose 4 = .ok (.iload_n 1, 1) := by decide +kernel
theorem dX6_lose_5 : decode cX6_lose 5 = .ok (.invokevirtual 148, 3) := by decide +kernel
theorem dX6_lose_8 : decode cX6_lose 8 = .ok (.ifnonnull 6, 3) := by decide +kernel
theorem dX6_lose_11 : decode cX6_lose 11 = .ok (.ldc 55, 2) := by decide +kernel
theorem dX6_lose_13 : decode cX6_lose 13 = .ok (.ireturn, 1) := by decide +kernel
theorem dX6_lose_14 : decode cX6_lose 14 = .ok (.aload_n 0, 1) := by decide +kernel
theorem dX6_lose_15 : decode cX6_lose 15 = .ok (.getfield 30, 3) := by decide +kernel
theorem dX6_lose_18 : decode cX6_lose 18 = .ok (.dup, 1) := by decide +kernel
theorem dX6_lose_19 : decode cX6_lose 19 = .ok (.getfield 151, 3) := by decide +kernel
theorem dX6_lose_22 : decode cX6_lose 22 = .ok (.iconst 1, 1) := by decide +kernel
theorem dX6_lose_23 : decode cX6_lose 23 = .ok (.iadd, 1) := by decide +kernel
theorem dX6_lose_24 : decode cX6_lose 24 = .ok (.putfield 151, 3) := by decide +kernel
theorem dX6_lose_27 : decode cX6_lose 27 = .ok (.aload_n 0, 1) := by decide +kernel
theorem dX6_lose_28 : decode cX6_lose 28 = .ok (.getfield 30, 3) := by decide +kernel
theorem dX6_lose_31 : decode cX6_lose 31 = .ok (.getfield 99, 3) := by decide +kernel
theorem dX6_lose_34 : decode cX6_lose 34 = .ok (.ireturn, 1) := by decide +kernel
theorem dX6_twice_0 : decode cX6_twice 0 = .ok (.aload_n 0, 1) := by decide +kernel
theorem dX6_twice_1 : decode cX6_twice 1 = .ok (.getfield 30, 3) := by decide +kernel
theorem dX6_twice_4 : decode cX6_twice 4 = .ok (.iload_n 1, 1) := by decide +kernel
theorem dX6_twice_5 : decode cX6_twice 5 = .ok (.invokevirtual 141, 3) := by decide +kernel
theorem dX6_twice_8 : decode cX6_twice 8 = .ok (.astore_n 2, 1) := by decide +kernel
theorem dX6_twice_9 : decode cX6_twice 9 = .ok (.aload_n 2, 1) := by decide +kernel
theorem dX6_twice_10 : decode cX6_twice 10 = .ok (.ifnonnull 6, 3) := by decide +kernel
theorem dX6_twice_13 : decode cX6_twice 13 = .ok (.ldc 55, 2) := by decide +kernel
theorem dX6_twice_15 : decode cX6_twice 15 = .ok (.ireturn, 1) := by decide +kernel
theorem dX6_twice_16 : decode cX6_twice 16 = .ok (.aload_n 0, 1) := by decide +kernel
theorem dX6_twice_17 : decode cX6_twice 17 = .ok (.getfield 30, 3) := by decide +kernel
theorem dX6_twice_20 : decode cX6_twice 20 = .ok (.invokevirtual 95, 3) := by decide +kernel
theorem dX6_twice_23 : decode cX6_twice 23 = .ok (.ifCond .eq 6, 3) := by decide +kernel
theorem dX6_twice_26 : decode cX6_twice 26 = .ok (.ldc 77, 2) := by decide +kernel
theorem dX6_twice_28 : decode cX6_twice 28 = .ok (.ireturn, 1) := by decide +kernel
theorem dX6_twice_29 : decode cX6_twice 29 = .ok (.aload_n 0, 1) := by decide +kernel
theorem dX6_twice_30 : decode cX6_twice 30 = .ok (.getfield 30, 3) := by decide +kernel
theorem dX6_twice_33 : decode cX6_twice 33 = .ok (.invokevirtual 154, 3) := by decide +kernel
theorem dX6_twice_36 : decode cX6_twice 36 = .ok (.astore_n 3, 1) := by decide +kernel
theorem dX6_twice_37 : decode cX6_twice 37 = .ok (.aload_n 3, 1) := by decide +kernel
theorem dX6_twice_38 : decode cX6_twice 38 = .ok (.ifnull 8, 3) := by decide +kernel
theorem dX6_twice_41 : decode cX6_twice 41 = .ok (.aload_n 3, 1) := by decide +kernel
theorem dX6_twice_42 : decode cX6_twice 42 = .ok (.aload_n 2, 1) := by decide +kernel
theorem dX6_twice_43 : decode cX6_twice 43 = .ok (.invokevirtual 158, 3) := by decide +kernel
theorem dX6_twice_46 : decode cX6_twice 46 = .ok (.aload_n 0, 1) := by decide +kernel
theorem dX6_twice_47 : decode cX6_twice 47 = .ok (.getfield 30, 3) := by decide +kernel
theorem dX6_twice_50 : decode cX6_twice 50 = .ok (.getfield 99, 3) := by decide +kernel
theorem dX6_twice_53 : decode cX6_twice 53 = .ok (.ireturn, 1) := by decide +kernel
theorem dX6_bend_0 : decode cX6_bend 0 = .ok (.aload_n 0, 1) := by decide +kernel
theorem dX6_bend_1 : decode cX6_bend 1 = .ok (.getfield 30, 3) := by decide +kernel
theorem dX6_bend_4 : decode cX6_bend 4 = .ok (.iload_n 1, 1) := by decide +kernel
theorem dX6_bend_5 : decode cX6_bend 5 = .ok (.invokevirtual 141, 3) := by decide +kernel
theorem dX6_bend_8 : decode cX6_bend 8 = .ok (.astore_n 2, 1) := by decide +kernel
theorem dX6_bend_9 : decode cX6_bend 9 = .ok (.aload_n 2, 1) := by decide +kernel
theorem dX6_bend_10 : decode cX6_bend 10 = .ok (.ifnonnull 6, 3) := by decide +kernel
theorem dX6_bend_13 : decode cX6_bend 13 = .ok (.ldc 55, 2) := by decide +kernel
theorem dX6_bend_15 : decode cX6_bend 15 = .ok (.ireturn, 1) := by decide +kernel
theorem dX6_bend_16 : decode cX6_bend 16 = .ok (.aload_n 2, 1) := by decide +kernel
theorem dX6_bend_17 : decode cX6_bend 17 = .ok (.getfield 164, 3) := by decide +kernel
theorem dX6_bend_20 : decode cX6_bend 20 = .ok (.ifCond .eq 5, 3) := by decide +kernel
theorem dX6_bend_23 : decode cX6_bend 23 = .ok (.iconst 0, 1) := by decide +kernel
theorem dX6_bend_24 : decode cX6_bend 24 = .ok (.ireturn, 1) := by decide +kernel
theorem dX6_bend_25 : decode cX6_bend 25 = .ok (.aload_n 2, 1) := by decide +kernel
theorem dX6_bend_26 : decode cX6_bend 26 = .ok (.iconst 1, 1) := by decide +kernel
theorem dX6_bend_27 : decode cX6_bend 27 = .ok (.putfield 164, 3) := by decide +kernel
theorem dX6_bend_30 : decode cX6_bend 30 = .ok (.iconst 1, 1) := by decide +kernel
theorem dX6_bend_31 : decode cX6_bend 31 = .ok (.ireturn, 1) := by decide +kernel
theorem dX6_letter_0 : decode cX6_letter 0 = .ok (.iload_n 2, 1) := by decide +kernel
theorem dX6_letter_1 : decode cX6_letter 1 = .ok (.ifCond .lt 8, 3) := by decide +kernel
theorem dX6_letter_4 : decode cX6_letter 4 = .ok (.iload_n 2, 1) := by decide +kernel
theorem dX6_letter_5 : decode cX6_letter 5 = .ok (.iconst 4, 1) := by decide +kernel
theorem dX6_letter_6 : decode cX6_letter 6 = .ok (.if_icmp .le 6, 3) := by decide +kernel
theorem dX6_letter_9 : decode cX6_letter 9 = .ok (.ldc 55, 2) := by decide +kernel
theorem dX6_letter_11 : decode cX6_letter 11 = .ok (.ireturn, 1) := by decide +kernel
theorem dX6_letter_12 : decode cX6_letter 12 = .ok (.aload_n 0, 1) := by decide +kernel
theorem dX6_letter_13 : decode cX6_letter 13 = .ok (.getfield 30, 3) := by decide +kernel
theorem dX6_letter_16 : decode cX6_letter 16 = .ok (.iload_n 1, 1) := by decide +kernel
theorem dX6_letter_17 : decode cX6_letter 17 = .ok (.invokevirtual 141, 3) := by decide +kernel
theorem dX6_letter_20 : decode cX6_letter 20 = .ok (.astore_n 3, 1) := by decide +kernel
theorem dX6_letter_21 : decode cX6_letter 21 = .ok (.aload_n 3, 1) := by decide +kernel
theorem dX6_letter_22 : decode cX6_letter 22 = .ok (.ifnonnull 5, 3) := by decide +kernel
theorem dX6_letter_25 : decode cX6_letter 25 = .ok (.iconst (-1), 1) := by decide +kernel
theorem dX6_letter_26 : decode cX6_letter 26 = .ok (.ireturn, 1) := by decide +kernel
theorem dX6_letter_27 : decode cX6_letter 27 = .ok (.iload_n 2, 1) := by decide +kernel
theorem dX6_letter_28 : decode cX6_letter 28 = .ok (.tableswitch 82 0 3 #[32, 40, 53, 69], 32) := by decide +kernel
theorem dX6_letter_60 : decode cX6_letter 60 = .ok (.aload_n 3, 1) := by decide +kernel
theorem dX6_letter_61 : decode cX6_letter 61 = .ok (.getfield 167, 3) := by decide +kernel
theorem dX6_letter_64 : decode cX6_letter 64 = .ok (.invokestatic 118, 3) := by decide +kernel
theorem dX6_letter_67 : decode cX6_letter 67 = .ok (.ireturn, 1) := by decide +kernel
theorem dX6_letter_68 : decode cX6_letter 68 = .ok (.aload_n 3, 1) := by decide +kernel
theorem dX6_letter_69 : decode cX6_letter 69 = .ok (.getfield 170, 3) := by decide +kernel
theorem dX6_letter_72 : decode cX6_letter 72 = .ok (.ifCond .eq 7, 3) := by decide +kernel
theorem dX6_letter_75 : decode cX6_letter 75 = .ok (.iconst 1, 1) := by decide +kernel
theorem dX6_letter_76 : decode cX6_letter 76 = .ok (.goto 4, 3) := by decide +kernel
theorem dX6_letter_79 : decode cX6_letter 79 = .ok (.iconst 0, 1) := by decide +kernel
theorem dX6_letter_80 : decode cX6_letter 80 = .ok (.ireturn, 1) := by decide +kernel
theorem dX6_letter_81 : decode cX6_letter 81 = .ok (.aload_n 3, 1) := by decide +kernel
theorem dX6_letter_82 : decode cX6_letter 82 = .ok (.getfield 170, 3) := by decide +kernel
theorem dX6_letter_85 : decode cX6_letter 85 = .ok (.ifCond .eq 7, 3) := by decide +kernel
theorem dX6_letter_88 : decode cX6_letter 88 = .ok (.iconst (-1), 1) := by decide +kernel
theorem dX6_letter_89 : decode cX6_letter 89 = .ok (.goto 7, 3) := by decide +kernel
theorem dX6_letter_92 : decode cX6_letter 92 = .ok (.aload_n 3, 1) := by decide +kernel
theorem dX6_letter_93 : decode cX6_letter 93 = .ok (.getfield 173, 3) := by decide +kernel
theorem dX6_letter_96 : decode cX6_letter 96 = .ok (.ireturn, 1) := by decide +kernel
theorem dX6_letter_97 : decode cX6_letter 97 = .ok (.aload_n 3, 1) := by decide +kernel
theorem dX6_letter_98 : decode cX6_letter 98 = .ok (.getfield 164, 3) := by decide +kernel
theorem dX6_letter_101 : decode cX6_letter 101 = .ok (.ifCond .eq 7, 3) := by decide +kernel
theorem dX6_letter_104 : decode cX6_letter 104 = .ok (.iconst 1, 1) := by decide +kernel
theorem dX6_letter_105 : decode cX6_letter 105 = .ok (.goto 4, 3) := by decide +kernel
theorem dX6_letter_108 : decode cX6_letter 108 = .ok (.iconst 0, 1) := by decide +kernel
theorem dX6_letter_109 : decode cX6_letter 109 = .ok (.ireturn, 1) := by decide +kernel
theorem dX6_letter_110 : decode cX6_letter 110 = .ok (.aload_n 3, 1) := by decide +kernel
theorem dX6_letter_111 : decode cX6_letter 111 = .ok (.getfield 176, 3) := by decide +kernel
theorem dX6_letter_114 : decode cX6_letter 114 = .ok (.ifCond .eq 7, 3) := by decide +kernel
theorem dX6_letter_117 : decode cX6_letter 117 = .ok (.iconst 1, 1) := by decide +kernel
theorem dX6_letter_118 : decode cX6_letter 118 = .ok (.goto 4, 3) := by decide +kernel
theorem dX6_letter_121 : decode cX6_letter 121 = .ok (.iconst 0, 1) := by decide +kernel
theorem dX6_letter_122 : decode cX6_letter 122 = .ok (.ireturn, 1) := by decide +kernel
theorem dX6_flow_0 : decode cX6_flow 0 = .ok (.iload_n 1, 1) := by decide +kernel
theorem dX6_flow_1 : decode cX6_flow 1 = .ok (.iconst 1, 1) := by decide +kernel
theorem dX6_flow_2 : decode cX6_flow 2 = .ok (.if_icmp .lt 10, 3) := by decide +kernel
theorem dX6_flow_5 : decode cX6_flow 5 = .ok (.iload_n 1, 1) := by decide +kernel
theorem dX6_flow_6 : decode cX6_flow 6 = .ok (.sipush 200, 3) := by decide +kernel
theorem dX6_flow_9 : decode cX6_flow 9 = .ok (.if_icmp .le 6, 3) := by decide +kernel
theorem dX6_flow_12 : decode cX6_flow 12 = .ok (.ldc 55, 2) := by decide +kernel
theorem dX6_flow_14 : decode cX6_flow 14 = .ok (.ireturn, 1) := by decide +kernel
theorem dX6_flow_15 : decode cX6_flow 15 = .ok (.iconst 0, 1) := by decide +kernel
theorem dX6_flow_16 : decode cX6_flow 16 = .ok (.istore_n 2, 1) := by decide +kernel
theorem dX6_flow_17 : decode cX6_flow 17 = .ok (.iload_n 2, 1) := by decide +kernel
theorem dX6_flow_18 : decode cX6_flow 18 = .ok (.iload_n 1, 1) := by decide +kernel
theorem dX6_flow_19 : decode cX6_flow 19 = .ok (.if_icmp .ge 26, 3) := by decide +kernel
theorem dX6_flow_22 : decode cX6_flow 22 = .ok (.aload_n 0, 1) := by decide +kernel
theorem dX6_flow_23 : decode cX6_flow 23 = .ok (.getfield 30, 3) := by decide +kernel
theorem dX6_flow_26 : decode cX6_flow 26 = .ok (.getfield 99, 3) := by decide +kernel
theorem dX6_flow_29 : decode cX6_flow 29 = .ok (.ifCond .le 16, 3) := by decide +kernel
theorem dX6_flow_32 : decode cX6_flow 32 = .ok (.aload_n 0, 1) := by decide +kernel
theorem dX6_flow_33 : decode cX6_flow 33 = .ok (.iconst 0, 1) := by decide +kernel
theorem dX6_flow_34 : decode cX6_flow 34 = .ok (.iconst 3, 1) := by decide +kernel
theorem dX6_flow_35 : decode cX6_flow 35 = .ok (.invokevirtual 145, 3) := by decide +kernel
theorem dX6_flow_38 : decode cX6_flow 38 = .ok (.pop, 1) := by decide +kernel
theorem dX6_flow_39 : decode cX6_flow 39 = .ok (.iinc 2 1, 3) := by decide +kernel
theorem dX6_flow_42 : decode cX6_flow 42 = .ok (.goto (-25), 3) := by decide +kernel
theorem dX6_flow_45 : decode cX6_flow 45 = .ok (.iload_n 2, 1) := by decide +kernel
theorem dX6_flow_46 : decode cX6_flow 46 = .ok (.ireturn, 1) := by decide +kernel
theorem dX6_fall_0 : decode cX6_fall 0 = .ok (.aload_n 0, 1) := by decide +kernel
theorem dX6_fall_1 : decode cX6_fall 1 = .ok (.iload_n 1, 1) := by decide +kernel
theorem dX6_fall_2 : decode cX6_fall 2 = .ok (.invokevirtual 64, 3) := by decide +kernel
theorem dX6_fall_5 : decode cX6_fall 5 = .ok (.astore_n 2, 1) := by decide +kernel
theorem dX6_fall_6 : decode cX6_fall 6 = .ok (.aload_n 2, 1) := by decide +kernel
theorem dX6_fall_7 : decode cX6_fall 7 = .ok (.ifnonnull 6, 3) := by decide +kernel
theorem dX6_fall_10 : decode cX6_fall 10 = .ok (.ldc 55, 2) := by decide +kernel
theorem dX6_fall_12 : decode cX6_fall 12 = .ok (.ireturn, 1) := by decide +kernel
theorem dX6_fall_13 : decode cX6_fall 13 = .ok (.aload_n 2, 1) := by decide +kernel
theorem dX6_fall_14 : decode cX6_fall 14 = .ok (.getfield 68, 3) := by decide +kernel
theorem dX6_fall_17 : decode cX6_fall 17 = .ok (.ifCond .ne 6, 3) := by decide +kernel
theorem dX6_fall_20 : decode cX6_fall 20 = .ok (.ldc 72, 2) := by decide +kernel
theorem dX6_fall_22 : decode cX6_fall 22 = .ok (.ireturn, 1) := by decide +kernel
theorem dX6_fall_23 : decode cX6_fall 23 = .ok (.aload_n 0, 1) := by decide +kernel
theorem dX6_fall_24 : decode cX6_fall 24 = .ok (.aload_n 2, 1) := by decide +kernel
theorem dX6_fall_25 : decode cX6_fall 25 = .ok (.invokevirtual 179, 3) := by decide +kernel
theorem dX6_fall_28 : decode cX6_fall 28 = .ok (.iconst 1, 1) := by decide +kernel
theorem dX6_fall_29 : decode cX6_fall 29 = .ok (.ireturn, 1) := by decide +kernel
theorem dX6_rise_0 : decode cX6_rise 0 = .ok (.aload_n 0, 1) := by decide +kernel
theorem dX6_rise_1 : decode cX6_rise 1 = .ok (.iload_n 1, 1) := by decide +kernel
theorem dX6_rise_2 : decode cX6_rise 2 = .ok (.invokevirtual 64, 3) := by decide +kernel
theorem dX6_rise_5 : decode cX6_rise 5 = .ok (.astore_n 2, 1) := by decide +kernel
theorem dX6_rise_6 : decode cX6_rise 6 = .ok (.aload_n 2, 1) := by decide +kernel
theorem dX6_rise_7 : decode cX6_rise 7 = .ok (.ifnonnull 6, 3) := by decide +kernel
theorem dX6_rise_10 : decode cX6_rise 10 = .ok (.ldc 55, 2) := by decide +kernel
theorem dX6_rise_12 : decode cX6_rise 12 = .ok (.ireturn, 1) := by decide +kernel
theorem dX6_rise_13 : decode cX6_rise 13 = .ok (.aload_n 2, 1) := by decide +kernel
theorem dX6_rise_14 : decode cX6_rise 14 = .ok (.getfield 68, 3) := by decide +kernel
theorem dX6_rise_17 : decode cX6_rise 17 = .ok (.ifCond .eq 6, 3) := by decide +kernel
theorem dX6_rise_20 : decode cX6_rise 20 = .ok (.ldc 72, 2) := by decide +kernel
theorem dX6_rise_22 : decode cX6_rise 22 = .ok (.ireturn, 1) := by decide +kernel
theorem dX6_rise_23 : decode cX6_rise 23 = .ok (.aload_n 2, 1) := by decide +kernel
theorem dX6_rise_24 : decode cX6_rise 24 = .ok (.iconst 1, 1) := by decide +kernel
theorem dX6_rise_25 : decode cX6_rise 25 = .ok (.putfield 68, 3) := by decide +kernel
theorem dX6_rise_28 : decode cX6_rise 28 = .ok (.aload_n 2, 1) := by decide +kernel
theorem dX6_rise_29 : decode cX6_rise 29 = .ok (.getfield 183, 3) := by decide +kernel
theorem dX6_rise_32 : decode cX6_rise 32 = .ok (.bipush 6, 2) := by decide +kernel
theorem dX6_rise_34 : decode cX6_rise 34 = .ok (.if_icmp .ge 7, 3) := by decide +kernel
theorem dX6_rise_37 : decode cX6_rise 37 = .ok (.aload_n 2, 1) := by decide +kernel
theorem dX6_rise_38 : decode cX6_rise 38 = .ok (.invokevirtual 184, 3) := by decide +kernel
theorem dX6_rise_41 : decode cX6_rise 41 = .ok (.aload_n 2, 1) := by decide +kernel
theorem dX6_rise_42 : decode cX6_rise 42 = .ok (.getfield 137, 3) := by decide +kernel
theorem dX6_rise_45 : decode cX6_rise 45 = .ok (.ireturn, 1) := by decide +kernel
theorem dX6_account_0 : decode cX6_account 0 = .ok (.aload_n 0, 1) := by decide +kernel
theorem dX6_account_1 : decode cX6_account 1 = .ok (.iload_n 1, 1) := by decide +kernel
theorem dX6_account_2 : decode cX6_account 2 = .ok (.invokevirtual 51, 3) := by decide +kernel
theorem dX6_account_5 : decode cX6_account 5 = .ok (.astore_n 3, 1) := by decide +kernel
theorem dX6_account_6 : decode cX6_account 6 = .ok (.aload_n 3, 1) := by decide +kernel
theorem dX6_account_7 : decode cX6_account 7 = .ok (.ifnull 10, 3) := by decide +kernel
theorem dX6_account_10 : decode cX6_account 10 = .ok (.iload_n 2, 1) := by decide +kernel
theorem dX6_account_11 : decode cX6_account 11 = .ok (.invokestatic 56, 3) := by decide +kernel
theorem dX6_account_14 : decode cX6_account 14 = .ok (.ifCond .ne 7, 3) := by decide +kernel
theorem dX6_account_17 : decode cX6_account 17 = .ok (.ldc2_w 125, 3) := by decide +kernel
theorem dX6_account_20 : decode cX6_account 20 = .ok (.lreturn, 1) := by decide +kernel
theorem dX6_account_21 : decode cX6_account 21 = .ok (.aload_n 3, 1) := by decide +kernel
theorem dX6_account_22 : decode cX6_account 22 = .ok (.iload_n 2, 1) := by decide +kernel
theorem dX6_account_23 : decode cX6_account 23 = .ok (.invokevirtual 187, 3) := by decide +kernel
theorem dX6_account_26 : decode cX6_account 26 = .ok (.lreturn, 1) := by decide +kernel
theorem dX6_kept_0 : decode cX6_kept 0 = .ok (.aload_n 0, 1) := by decide +kernel
theorem dX6_kept_1 : decode cX6_kept 1 = .ok (.iload_n 1, 1) := by decide +kernel
theorem dX6_kept_2 : decode cX6_kept 2 = .ok (.iload_n 2, 1) := by decide +kernel
theorem dX6_kept_3 : decode cX6_kept 3 = .ok (.invokevirtual 191, 3) := by decide +kernel
theorem dX6_kept_6 : decode cX6_kept 6 = .ok (.astore 4, 2) := by decide +kernel
theorem dX6_kept_8 : decode cX6_kept 8 = .ok (.aload 4, 2) := by decide +kernel
theorem dX6_kept_10 : decode cX6_kept 10 = .ok (.ifnonnull 6, 3) := by decide +kernel
theorem dX6_kept_13 : decode cX6_kept 13 = .ok (.ldc 55, 2) := by decide +kernel
theorem dX6_kept_15 : decode cX6_kept 15 = .ok (.ireturn, 1) := by decide +kernel
theorem dX6_kept_16 : decode cX6_kept 16 = .ok (.iload_n 3, 1) := by decide +kernel
theorem dX6_kept_17 : decode cX6_kept 17 = .ok (.tableswitch 45 0 2 #[27, 33, 39], 27) := by decide +kernel
theorem dX6_kept_44 : decode cX6_kept 44 = .ok (.aload 4, 2) := by decide +kernel
theorem dX6_kept_46 : decode cX6_kept 46 = .ok (.getfield 195, 3) := by decide +kernel
theorem dX6_kept_49 : decode cX6_kept 49 = .ok (.ireturn, 1) := by decide +kernel
theorem dX6_kept_50 : decode cX6_kept 50 = .ok (.aload 4, 2) := by decide +kernel
theorem dX6_kept_52 : decode cX6_kept 52 = .ok (.getfield 198, 3) := by decide +kernel
theorem dX6_kept_55 : decode cX6_kept 55 = .ok (.ireturn, 1) := by decide +kernel
theorem dX6_kept_56 : decode cX6_kept 56 = .ok (.aload 4, 2) := by decide +kernel
theorem dX6_kept_58 : decode cX6_kept 58 = .ok (.getfield 201, 3) := by decide +kernel
theorem dX6_kept_61 : decode cX6_kept 61 = .ok (.ireturn, 1) := by decide +kernel
theorem dX6_kept_62 : decode cX6_kept 62 = .ok (.ldc 55, 2) := by decide +kernel
theorem dX6_kept_64 : decode cX6_kept 64 = .ok (.ireturn, 1) := by decide +kernel
theorem dX6_record_0 : decode cX6_record 0 = .ok (.aload_n 0, 1) := by decide +kernel
theorem dX6_record_1 : decode cX6_record 1 = .ok (.iload_n 1, 1) := by decide +kernel
theorem dX6_record_2 : decode cX6_record 2 = .ok (.iload_n 2, 1) := by decide +kernel
theorem dX6_record_3 : decode cX6_record 3 = .ok (.invokevirtual 191, 3) := by decide +kernel
theorem dX6_record_6 : decode cX6_record 6 = .ok (.astore 4, 2) := by decide +kernel
theorem dX6_record_8 : decode cX6_record 8 = .ok (.aload 4, 2) := by decide +kernel
theorem dX6_record_10 : decode cX6_record 10 = .ok (.ifnonnull 8, 3) := by decide +kernel
theorem dX6_record_13 : decode cX6_record 13 = .ok (.ldc 55, 2) := by decide +kernel
theorem dX6_record_15 : decode cX6_record 15 = .ok (.goto 9, 3) := by decide +kernel
theorem dX6_record_18 : decode cX6_record 18 = .ok (.aload 4, 2) := by decide +kernel
theorem dX6_record_20 : decode cX6_record 20 = .ok (.iload_n 3, 1) := by decide +kernel
theorem dX6_record_21 : decode cX6_record 21 = .ok (.invokevirtual 204, 3) := by decide +kernel
theorem dX6_record_24 : decode cX6_record 24 = .ok (.ireturn, 1) := by decide +kernel
theorem dX6_leave_0 : decode cX6_leave 0 = .ok (.aload_n 0, 1) := by decide +kernel
theorem dX6_leave_1 : decode cX6_leave 1 = .ok (.iload_n 1, 1) := by decide +kernel
theorem dX6_leave_2 : decode cX6_leave 2 = .ok (.iload_n 2, 1) := by decide +kernel
theorem dX6_leave_3 : decode cX6_leave 3 = .ok (.invokevirtual 191, 3) := by decide +kernel
theorem dX6_leave_6 : decode cX6_leave 6 = .ok (.astore_n 3, 1) := by decide +kernel
theorem dX6_leave_7 : decode cX6_leave 7 = .ok (.aload_n 0, 1) := by decide +kernel
theorem dX6_leave_8 : decode cX6_leave 8 = .ok (.bipush 6, 2) := by decide +kernel
theorem dX6_leave_10 : decode cX6_leave 10 = .ok (.iload_n 1, 1) := by decide +kernel
theorem dX6_leave_11 : decode cX6_leave 11 = .ok (.iadd, 1) := by decide +kernel
theorem dX6_leave_12 : decode cX6_leave 12 = .ok (.invokevirtual 64, 3) := by decide +kernel
theorem dX6_leave_15 : decode cX6_leave 15 = .ok (.astore 4, 2) := by decide +kernel
theorem dX6_leave_17 : decode cX6_leave 17 = .ok (.aload_n 3, 1) := by decide +kernel
theorem dX6_leave_18 : decode cX6_leave 18 = .ok (.ifnull 14, 3) := by decide +kernel
theorem dX6_leave_21 : decode cX6_leave 21 = .ok (.aload 4, 2) := by decide +kernel
theorem dX6_leave_23 : decode cX6_leave 23 = .ok (.ifnull 9, 3) := by decide +kernel
theorem dX6_leave_26 : decode cX6_leave 26 = .ok (.iload_n 2, 1) := by decide +kernel
theorem dX6_leave_27 : decode cX6_leave 27 = .ok (.bipush 6, 2) := by decide +kernel
theorem dX6_leave_29 : decode cX6_leave 29 = .ok (.if_icmp .lt 6, 3) := by decide +kernel
theorem dX6_leave_32 : decode cX6_leave 32 = .ok (.ldc 55, 2) := by decide +kernel
theorem dX6_leave_34 : decode cX6_leave 34 = .ok (.ireturn, 1) := by decide +kernel
theorem dX6_leave_35 : decode cX6_leave 35 = .ok (.aload 4, 2) := by decide +kernel
theorem dX6_leave_37 : decode cX6_leave 37 = .ok (.getfield 68, 3) := by decide +kernel
theorem dX6_leave_40 : decode cX6_leave 40 = .ok (.ifCond .eq 10, 3) := by decide +kernel
theorem dX6_leave_43 : decode cX6_leave 43 = .ok (.aload_n 3, 1) := by decide +kernel
theorem dX6_leave_44 : decode cX6_leave 44 = .ok (.invokevirtual 208, 3) := by decide +kernel
theorem dX6_leave_47 : decode cX6_leave 47 = .ok (.ifCond .eq 6, 3) := by decide +kernel
theorem dX6_leave_50 : decode cX6_leave 50 = .ok (.ldc 72, 2) := by decide +kernel
theorem dX6_leave_52 : decode cX6_leave 52 = .ok (.ireturn, 1) := by decide +kernel
theorem dX6_leave_53 : decode cX6_leave 53 = .ok (.aload_n 3, 1) := by decide +kernel
theorem dX6_leave_54 : decode cX6_leave 54 = .ok (.getfield 201, 3) := by decide +kernel
theorem dX6_leave_57 : decode cX6_leave 57 = .ok (.istore 5, 2) := by decide +kernel
theorem dX6_leave_59 : decode cX6_leave 59 = .ok (.aload_n 3, 1) := by decide +kernel
theorem dX6_leave_60 : decode cX6_leave 60 = .ok (.aload_n 3, 1) := by decide +kernel
theorem dX6_leave_61 : decode cX6_leave 61 = .ok (.getfield 195, 3) := by decide +kernel
theorem dX6_leave_64 : decode cX6_leave 64 = .ok (.iconst 1, 1) := by decide +kernel
theorem dX6_leave_65 : decode cX6_leave 65 = .ok (.iadd, 1) := by decide +kernel
theorem dX6_leave_66 : decode cX6_leave 66 = .ok (.invokevirtual 211, 3) := by decide +kernel
theorem dX6_leave_69 : decode cX6_leave 69 = .ok (.iload 5, 2) := by decide +kernel
theorem dX6_leave_71 : decode cX6_leave 71 = .ok (.ireturn, 1) := by decide +kernel
theorem dX6_times_0 : decode cX6_times 0 = .ok (.aload_n 0, 1) := by decide +kernel
theorem dX6_times_1 : decode cX6_times 1 = .ok (.iload_n 1, 1) := by decide +kernel
theorem dX6_times_2 : decode cX6_times 2 = .ok (.invokevirtual 85, 3) := by decide +kernel
theorem dX6_times_5 : decode cX6_times 5 = .ok (.astore_n 2, 1) := by decide +kernel
theorem dX6_times_6 : decode cX6_times 6 = .ok (.aload_n 2, 1) := by decide +kernel
theorem dX6_times_7 : decode cX6_times 7 = .ok (.ifnonnull 6, 3) := by decide +kernel
theorem dX6_times_10 : decode cX6_times 10 = .ok (.ldc 55, 2) := by decide +kernel
theorem dX6_times_12 : decode cX6_times 12 = .ok (.ireturn, 1) := by decide +kernel
theorem dX6_times_13 : decode cX6_times 13 = .ok (.aload_n 2, 1) := by decide +kernel
theorem dX6_times_14 : decode cX6_times 14 = .ok (.getfield 213, 3) := by decide +kernel
theorem dX6_times_17 : decode cX6_times 17 = .ok (.ifCond .eq 7, 3) := by decide +kernel
theorem dX6_times_20 : decode cX6_times 20 = .ok (.iconst 1, 1) := by decide +kernel
theorem dX6_times_21 : decode cX6_times 21 = .ok (.goto 4, 3) := by decide +kernel
theorem dX6_times_24 : decode cX6_times 24 = .ok (.iconst 0, 1) := by decide +kernel
theorem dX6_times_25 : decode cX6_times 25 = .ok (.ireturn, 1) := by decide +kernel
theorem dX6_audit_0 : decode cX6_audit 0 = .ok (.iload_n 1, 1) := by decide +kernel
theorem dX6_audit_1 : decode cX6_audit 1 = .ok (.tableswitch 42 0 2 #[27, 32, 37], 27) := by decide +kernel
theorem dX6_audit_28 : decode cX6_audit 28 = .ok (.aload_n 0, 1) := by decide +kernel
theorem dX6_audit_29 : decode cX6_audit 29 = .ok (.invokevirtual 216, 3) := by decide +kernel
theorem dX6_audit_32 : decode cX6_audit 32 = .ok (.lreturn, 1) := by decide +kernel
theorem dX6_audit_33 : decode cX6_audit 33 = .ok (.aload_n 0, 1) := by decide +kernel
theorem dX6_audit_34 : decode cX6_audit 34 = .ok (.invokevirtual 220, 3) := by decide +kernel
theorem dX6_audit_37 : decode cX6_audit 37 = .ok (.lreturn, 1) := by decide +kernel
theorem dX6_audit_38 : decode cX6_audit 38 = .ok (.aload_n 0, 1) := by decide +kernel
theorem dX6_audit_39 : decode cX6_audit 39 = .ok (.invokevirtual 223, 3) := by decide +kernel
theorem dX6_audit_42 : decode cX6_audit 42 = .ok (.lreturn, 1) := by decide +kernel
theorem dX6_audit_43 : decode cX6_audit 43 = .ok (.ldc2_w 125, 3) := by decide +kernel
theorem dX6_audit_46 : decode cX6_audit 46 = .ok (.lreturn, 1) := by decide +kernel
theorem dX6_witness_0 : decode cX6_witness 0 = .ok (.aload_n 0, 1) := by decide +kernel
theorem dX6_witness_1 : decode cX6_witness 1 = .ok (.iload_n 1, 1) := by decide +kernel
theorem dX6_witness_2 : decode cX6_witness 2 = .ok (.invokevirtual 85, 3) := by decide +kernel
theorem dX6_witness_5 : decode cX6_witness 5 = .ok (.astore_n 2, 1) := by decide +kernel
theorem dX6_witness_6 : decode cX6_witness 6 = .ok (.aload_n 2, 1) := by decide +kernel
theorem dX6_witness_7 : decode cX6_witness 7 = .ok (.ifnonnull 7, 3) := by decide +kernel
theorem dX6_witness_10 : decode cX6_witness 10 = .ok (.ldc2_w 125, 3) := by decide +kernel
theorem dX6_witness_13 : decode cX6_witness 13 = .ok (.lreturn, 1) := by decide +kernel
theorem dX6_witness_14 : decode cX6_witness 14 = .ok (.aload_n 2, 1) := by decide +kernel
theorem dX6_witness_15 : decode cX6_witness 15 = .ok (.getfield 92, 3) := by decide +kernel
theorem dX6_witness_18 : decode cX6_witness 18 = .ok (.iconst 1, 1) := by decide +kernel
theorem dX6_witness_19 : decode cX6_witness 19 = .ok (.if_icmp .ne 10, 3) := by decide +kernel
theorem dX6_witness_22 : decode cX6_witness 22 = .ok (.aload_n 2, 1) := by decide +kernel
theorem dX6_witness_23 : decode cX6_witness 23 = .ok (.invokevirtual 226, 3) := by decide +kernel
theorem dX6_witness_26 : decode cX6_witness 26 = .ok (.goto 6, 3) := by decide +kernel
theorem dX6_witness_29 : decode cX6_witness 29 = .ok (.ldc2_w 131, 3) := by decide +kernel
theorem dX6_witness_32 : decode cX6_witness 32 = .ok (.lreturn, 1) := by decide +kernel
theorem dX6_check_0 : decode cX6_check 0 = .ok (.aload_n 0, 1) := by decide +kernel
theorem dX6_check_1 : decode cX6_check 1 = .ok (.iload_n 1, 1) := by decide +kernel
theorem dX6_check_2 : decode cX6_check 2 = .ok (.invokevirtual 85, 3) := by decide +kernel
theorem dX6_check_5 : decode cX6_check 5 = .ok (.astore 4, 2) := by decide +kernel
theorem dX6_check_7 : decode cX6_check 7 = .ok (.aload 4, 2) := by decide +kernel
theorem dX6_check_9 : decode cX6_check 9 = .ok (.ifnonnull 6, 3) := by decide +kernel
theorem dX6_check_12 : decode cX6_check 12 = .ok (.ldc 55, 2) := by decide +kernel
theorem dX6_check_14 : decode cX6_check 14 = .ok (.ireturn, 1) := by decide +kernel
theorem dX6_check_15 : decode cX6_check 15 = .ok (.aload 4, 2) := by decide +kernel
theorem dX6_check_17 : decode cX6_check 17 = .ok (.getfield 92, 3) := by decide +kernel
theorem dX6_check_20 : decode cX6_check 20 = .ok (.iconst 1, 1) := by decide +kernel
theorem dX6_check_21 : decode cX6_check 21 = .ok (.if_icmp .ne 17, 3) := by decide +kernel
theorem dX6_check_24 : decode cX6_check 24 = .ok (.aload 4, 2) := by decide +kernel
theorem dX6_check_26 : decode cX6_check 26 = .ok (.invokevirtual 226, 3) := by decide +kernel
theorem dX6_check_29 : decode cX6_check 29 = .ok (.lload_n 2, 1) := by decide +kernel
theorem dX6_check_30 : decode cX6_check 30 = .ok (.lcmp, 1) := by decide +kernel
theorem dX6_check_31 : decode cX6_check 31 = .ok (.ifCond .ne 7, 3) := by decide +kernel
theorem dX6_check_34 : decode cX6_check 34 = .ok (.iconst 1, 1) := by decide +kernel
theorem dX6_check_35 : decode cX6_check 35 = .ok (.goto 4, 3) := by decide +kernel
theorem dX6_check_38 : decode cX6_check 38 = .ok (.iconst 0, 1) := by decide +kernel
theorem dX6_check_39 : decode cX6_check 39 = .ok (.ireturn, 1) := by decide +kernel
theorem dX6_count_0 : decode cX6_count 0 = .ok (.iload_n 1, 1) := by decide +kernel
theorem dX6_count_1 : decode cX6_count 1 = .ok (.tableswitch 96 0 7 #[47, 52, 57, 65, 73, 81, 86, 91], 47) := by decide +kernel
theorem dX6_count_48 : decode cX6_count 48 = .ok (.aload_n 0, 1) := by decide +kernel
theorem dX6_count_49 : decode cX6_count 49 = .ok (.getfield 229, 3) := by decide +kernel
theorem dX6_count_52 : decode cX6_count 52 = .ok (.ireturn, 1) := by decide +kernel
theorem dX6_count_53 : decode cX6_count 53 = .ok (.aload_n 0, 1) := by decide +kernel
theorem dX6_count_54 : decode cX6_count 54 = .ok (.invokevirtual 232, 3) := by decide +kernel
theorem dX6_count_57 : decode cX6_count 57 = .ok (.ireturn, 1) := by decide +kernel
theorem dX6_count_58 : decode cX6_count 58 = .ok (.aload_n 0, 1) := by decide +kernel
theorem dX6_count_59 : decode cX6_count 59 = .ok (.getfield 30, 3) := by decide +kernel
theorem dX6_count_62 : decode cX6_count 62 = .ok (.getfield 99, 3) := by decide +kernel
theorem dX6_count_65 : decode cX6_count 65 = .ok (.ireturn, 1) := by decide +kernel
theorem dX6_count_66 : decode cX6_count 66 = .ok (.aload_n 0, 1) := by decide +kernel
theorem dX6_count_67 : decode cX6_count 67 = .ok (.getfield 30, 3) := by decide +kernel
theorem dX6_count_70 : decode cX6_count 70 = .ok (.getfield 235, 3) := by decide +kernel
theorem dX6_count_73 : decode cX6_count 73 = .ok (.ireturn, 1) := by decide +kernel
theorem dX6_count_74 : decode cX6_count 74 = .ok (.aload_n 0, 1) := by decide +kernel
theorem dX6_count_75 : decode cX6_count 75 = .ok (.getfield 30, 3) := by decide +kernel
theorem dX6_count_78 : decode cX6_count 78 = .ok (.getfield 151, 3) := by decide +kernel
theorem dX6_count_81 : decode cX6_count 81 = .ok (.ireturn, 1) := by decide +kernel
theorem dX6_count_82 : decode cX6_count 82 = .ok (.aload_n 0, 1) := by decide +kernel
theorem dX6_count_83 : decode cX6_count 83 = .ok (.getfield 238, 3) := by decide +kernel
theorem dX6_count_86 : decode cX6_count 86 = .ok (.ireturn, 1) := by decide +kernel
theorem dX6_count_87 : decode cX6_count 87 = .ok (.aload_n 0, 1) := by decide +kernel
theorem dX6_count_88 : decode cX6_count 88 = .ok (.invokevirtual 241, 3) := by decide +kernel
theorem dX6_count_91 : decode cX6_count 91 = .ok (.ireturn, 1) := by decide +kernel
theorem dX6_count_92 : decode cX6_count 92 = .ok (.aload_n 0, 1) := by decide +kernel
theorem dX6_count_93 : decode cX6_count 93 = .ok (.getfield 43, 3) := by decide +kernel
theorem dX6_count_96 : decode cX6_count 96 = .ok (.ireturn, 1) := by decide +kernel
theorem dX6_count_97 : decode cX6_count 97 = .ok (.ldc 55, 2) := by decide +kernel
theorem dX6_count_99 : decode cX6_count 99 = .ok (.ireturn, 1) := by decide +kernel
theorem dX6_endOf_0 : decode cX6_endOf 0 = .ok (.iload_n 1, 1) := by decide +kernel
theorem dX6_endOf_1 : decode cX6_endOf 1 = .ok (.ifCond .lt 21, 3) := by decide +kernel
theorem dX6_endOf_4 : decode cX6_endOf 4 = .ok (.iload_n 1, 1) := by decide +kernel
theorem dX6_endOf_5 : decode cX6_endOf 5 = .ok (.aload_n 0, 1) := by decide +kernel
theorem dX6_endOf_6 : decode cX6_endOf 6 = .ok (.getfield 11, 3) := by decide +kernel
theorem dX6_endOf_9 : decode cX6_endOf 9 = .ok (.arraylength, 1) := by decide +kernel
theorem dX6_endOf_10 : decode cX6_endOf 10 = .ok (.if_icmp .ge 12, 3) := by decide +kernel
theorem dX6_endOf_13 : decode cX6_endOf 13 = .ok (.aload_n 0, 1) := by decide +kernel
theorem dX6_endOf_14 : decode cX6_endOf 14 = .ok (.getfield 11, 3) := by decide +kernel
theorem dX6_endOf_17 : decode cX6_endOf 17 = .ok (.iload_n 1, 1) := by decide +kernel
theorem dX6_endOf_18 : decode cX6_endOf 18 = .ok (.aaload, 1) := by decide +kernel
theorem dX6_endOf_19 : decode cX6_endOf 19 = .ok (.goto 4, 3) := by decide +kernel
theorem dX6_endOf_22 : decode cX6_endOf 22 = .ok (.aconst_null, 1) := by decide +kernel
theorem dX6_endOf_23 : decode cX6_endOf 23 = .ok (.areturn, 1) := by decide +kernel
theorem dX6_serverOf_0 : decode cX6_serverOf 0 = .ok (.iload_n 1, 1) := by decide +kernel
theorem dX6_serverOf_1 : decode cX6_serverOf 1 = .ok (.ifCond .lt 21, 3) := by decide +kernel
theorem dX6_serverOf_4 : decode cX6_serverOf 4 = .ok (.iload_n 1, 1) := by decide +kernel
theorem dX6_serverOf_5 : decode cX6_serverOf 5 = .ok (.aload_n 0, 1) := by decide +kernel
theorem dX6_serverOf_6 : decode cX6_serverOf 6 = .ok (.getfield 17, 3) := by decide +kernel
theorem dX6_serverOf_9 : decode cX6_serverOf 9 = .ok (.arraylength, 1) := by decide +kernel
theorem dX6_serverOf_10 : decode cX6_serverOf 10 = .ok (.if_icmp .ge 12, 3) := by decide +kernel
theorem dX6_serverOf_13 : decode cX6_serverOf 13 = .ok (.aload_n 0, 1) := by decide +kernel
theorem dX6_serverOf_14 : decode cX6_serverOf 14 = .ok (.getfield 17, 3) := by decide +kernel
theorem dX6_serverOf_17 : decode cX6_serverOf 17 = .ok (.iload_n 1, 1) := by decide +kernel
theorem dX6_serverOf_18 : decode cX6_serverOf 18 = .ok (.aaload, 1) := by decide +kernel
theorem dX6_serverOf_19 : decode cX6_serverOf 19 = .ok (.goto 4, 3) := by decide +kernel
theorem dX6_serverOf_22 : decode cX6_serverOf 22 = .ok (.aconst_null, 1) := by decide +kernel
theorem dX6_serverOf_23 : decode cX6_serverOf 23 = .ok (.areturn, 1) := by decide +kernel
theorem dX6_askOf_0 : decode cX6_askOf 0 = .ok (.iload_n 1, 1) := by decide +kernel
theorem dX6_askOf_1 : decode cX6_askOf 1 = .ok (.ifCond .lt 21, 3) := by decide +kernel
theorem dX6_askOf_4 : decode cX6_askOf 4 = .ok (.iload_n 1, 1) := by decide +kernel
theorem dX6_askOf_5 : decode cX6_askOf 5 = .ok (.aload_n 0, 1) := by decide +kernel
theorem dX6_askOf_6 : decode cX6_askOf 6 = .ok (.getfield 23, 3) := by decide +kernel
theorem dX6_askOf_9 : decode cX6_askOf 9 = .ok (.arraylength, 1) := by decide +kernel
theorem dX6_askOf_10 : decode cX6_askOf 10 = .ok (.if_icmp .ge 12, 3) := by decide +kernel
theorem dX6_askOf_13 : decode cX6_askOf 13 = .ok (.aload_n 0, 1) := by decide +kernel
theorem dX6_askOf_14 : decode cX6_askOf 14 = .ok (.getfield 23, 3) := by decide +kernel
theorem dX6_askOf_17 : decode cX6_askOf 17 = .ok (.iload_n 1, 1) := by decide +kernel
theorem dX6_askOf_18 : decode cX6_askOf 18 = .ok (.aaload, 1) := by decide +kernel
theorem dX6_askOf_19 : decode cX6_askOf 19 = .ok (.goto 4, 3) := by decide +kernel
theorem dX6_askOf_22 : decode cX6_askOf 22 = .ok (.aconst_null, 1) := by decide +kernel
theorem dX6_askOf_23 : decode cX6_askOf 23 = .ok (.areturn, 1) := by decide +kernel
theorem dX6_memoryOf_0 : decode cX6_memoryOf 0 = .ok (.aload_n 0, 1) := by decide +kernel
theorem dX6_memoryOf_1 : decode cX6_memoryOf 1 = .ok (.iload_n 1, 1) := by decide +kernel
theorem dX6_memoryOf_2 : decode cX6_memoryOf 2 = .ok (.invokevirtual 51, 3) := by decide +kernel
theorem dX6_memoryOf_5 : decode cX6_memoryOf 5 = .ok (.astore_n 3, 1) := by decide +kernel
theorem dX6_memoryOf_6 : decode cX6_memoryOf 6 = .ok (.aload_n 3, 1) := by decide +kernel
theorem dX6_memoryOf_7 : decode cX6_memoryOf 7 = .ok (.ifnonnull 7, 3) := by decide +kernel
theorem dX6_memoryOf_10 : decode cX6_memoryOf 10 = .ok (.aconst_null, 1) := by decide +kernel
theorem dX6_memoryOf_11 : decode cX6_memoryOf 11 = .ok (.goto 8, 3) := by decide +kernel
theorem dX6_memoryOf_14 : decode cX6_memoryOf 14 = .ok (.aload_n 3, 1) := by decide +kernel
theorem dX6_memoryOf_15 : decode cX6_memoryOf 15 = .ok (.iload_n 2, 1) := by decide +kernel
theorem dX6_memoryOf_16 : decode cX6_memoryOf 16 = .ok (.invokevirtual 244, 3) := by decide +kernel
theorem dX6_memoryOf_19 : decode cX6_memoryOf 19 = .ok (.areturn, 1) := by decide +kernel
theorem dX6_idOf_0 : decode cX6_idOf 0 = .ok (.aload_n 0, 1) := by decide +kernel
theorem dX6_idOf_1 : decode cX6_idOf 1 = .ok (.ifnonnull 7, 3) := by decide +kernel
theorem dX6_idOf_4 : decode cX6_idOf 4 = .ok (.iconst (-1), 1) := by decide +kernel
theorem dX6_idOf_5 : decode cX6_idOf 5 = .ok (.goto 7, 3) := by decide +kernel
theorem dX6_idOf_8 : decode cX6_idOf 8 = .ok (.aload_n 0, 1) := by decide +kernel
theorem dX6_idOf_9 : decode cX6_idOf 9 = .ok (.getfield 82, 3) := by decide +kernel
theorem dX6_idOf_12 : decode cX6_idOf 12 = .ok (.ireturn, 1) := by decide +kernel
theorem dX6_isAccount_0 : decode cX6_isAccount 0 = .ok (.iload_n 0, 1) := by decide +kernel
theorem dX6_isAccount_1 : decode cX6_isAccount 1 = .ok (.ifCond .lt 13, 3) := by decide +kernel
theorem dX6_isAccount_4 : decode cX6_isAccount 4 = .ok (.iload_n 0, 1) := by decide +kernel
theorem dX6_isAccount_5 : decode cX6_isAccount 5 = .ok (.bipush 6, 2) := by decide +kernel
theorem dX6_isAccount_7 : decode cX6_isAccount 7 = .ok (.if_icmp .ge 7, 3) := by decide +kernel
theorem dX6_isAccount_10 : decode cX6_isAccount 10 = .ok (.iconst 1, 1) := by decide +kernel
theorem dX6_isAccount_11 : decode cX6_isAccount 11 = .ok (.goto 4, 3) := by decide +kernel
theorem dX6_isAccount_14 : decode cX6_isAccount 14 = .ok (.iconst 0, 1) := by decide +kernel
theorem dX6_isAccount_15 : decode cX6_isAccount 15 = .ok (.ireturn, 1) := by decide +kernel
theorem dX6_isAmount_0 : decode cX6_isAmount 0 = .ok (.iload_n 1, 1) := by decide +kernel
theorem dX6_isAmount_1 : decode cX6_isAmount 1 = .ok (.ldc 247, 2) := by decide +kernel
theorem dX6_isAmount_3 : decode cX6_isAmount 3 = .ok (.if_icmp .le 5, 3) := by decide +kernel
theorem dX6_isAmount_6 : decode cX6_isAmount 6 = .ok (.iconst 0, 1) := by decide +kernel
theorem dX6_isAmount_7 : decode cX6_isAmount 7 = .ok (.ireturn, 1) := by decide +kernel
theorem dX6_isAmount_8 : decode cX6_isAmount 8 = .ok (.iload_n 0, 1) := by decide +kernel
theorem dX6_isAmount_9 : decode cX6_isAmount 9 = .ok (.tableswitch 68 0 4 #[35, 35, 47, 47, 57], 35) := by decide +kernel
theorem dX6_isAmount_44 : decode cX6_isAmount 44 = .ok (.iload_n 1, 1) := by decide +kernel
theorem dX6_isAmount_45 : decode cX6_isAmount 45 = .ok (.ldc 248, 2) := by decide +kernel
theorem dX6_isAmount_47 : decode cX6_isAmount 47 = .ok (.if_icmp .lt 7, 3) := by decide +kernel
theorem dX6_isAmount_50 : decode cX6_isAmount 50 = .ok (.iconst 1, 1) := by decide +kernel
theorem dX6_isAmount_51 : decode cX6_isAmount 51 = .ok (.goto 4, 3) := by decide +kernel
theorem dX6_isAmount_54 : decode cX6_isAmount 54 = .ok (.iconst 0, 1) := by decide +kernel
theorem dX6_isAmount_55 : decode cX6_isAmount 55 = .ok (.ireturn, 1) := by decide +kernel
theorem dX6_isAmount_56 : decode cX6_isAmount 56 = .ok (.iload_n 1, 1) := by decide +kernel
theorem dX6_isAmount_57 : decode cX6_isAmount 57 = .ok (.ifCond .lt 7, 3) := by decide +kernel
theorem dX6_isAmount_60 : decode cX6_isAmount 60 = .ok (.iconst 1, 1) := by decide +kernel
theorem dX6_isAmount_61 : decode cX6_isAmount 61 = .ok (.goto 4, 3) := by decide +kernel
theorem dX6_isAmount_64 : decode cX6_isAmount 64 = .ok (.iconst 0, 1) := by decide +kernel
theorem dX6_isAmount_65 : decode cX6_isAmount 65 = .ok (.ireturn, 1) := by decide +kernel
theorem dX6_isAmount_66 : decode cX6_isAmount 66 = .ok (.iload_n 1, 1) := by decide +kernel
theorem dX6_isAmount_67 : decode cX6_isAmount 67 = .ok (.iconst 1, 1) := by decide +kernel
theorem dX6_isAmount_68 : decode cX6_isAmount 68 = .ok (.if_icmp .lt 7, 3) := by decide +kernel
theorem dX6_isAmount_71 : decode cX6_isAmount 71 = .ok (.iconst 1, 1) := by decide +kernel
theorem dX6_isAmount_72 : decode cX6_isAmount 72 = .ok (.goto 4, 3) := by decide +kernel
theorem dX6_isAmount_75 : decode cX6_isAmount 75 = .ok (.iconst 0, 1) := by decide +kernel
theorem dX6_isAmount_76 : decode cX6_isAmount 76 = .ok (.ireturn, 1) := by decide +kernel
theorem dX6_isAmount_77 : decode cX6_isAmount 77 = .ok (.iconst 0, 1) := by decide +kernel
theorem dX6_isAmount_78 : decode cX6_isAmount 78 = .ok (.ireturn, 1) := by decide +kernel
theorem dX6_newAsk_0 : decode cX6_newAsk 0 = .ok (.aload_n 0, 1) := by decide +kernel
theorem dX6_newAsk_1 : decode cX6_newAsk 1 = .ok (.getfield 229, 3) := by decide +kernel
theorem dX6_newAsk_4 : decode cX6_newAsk 4 = .ok (.ifCond .lt 15, 3) := by decide +kernel
theorem dX6_newAsk_7 : decode cX6_newAsk 7 = .ok (.aload_n 0, 1) := by decide +kernel
theorem dX6_newAsk_8 : decode cX6_newAsk 8 = .ok (.getfield 229, 3) := by decide +kernel
theorem dX6_newAsk_11 : decode cX6_newAsk 11 = .ok (.aload_n 0, 1) := by decide +kernel
theorem dX6_newAsk_12 : decode cX6_newAsk 12 = .ok (.getfield 23, 3) := by decide +kernel
theorem dX6_newAsk_15 : decode cX6_newAsk 15 = .ok (.arraylength, 1) := by decide +kernel
theorem dX6_newAsk_16 : decode cX6_newAsk 16 = .ok (.if_icmp .lt 5, 3) := by decide +kernel
theorem dX6_newAsk_19 : decode cX6_newAsk 19 = .ok (.aconst_null, 1) := by decide +kernel
theorem dX6_newAsk_20 : decode cX6_newAsk 20 = .ok (.areturn, 1) := by decide +kernel
theorem dX6_newAsk_21 : decode cX6_newAsk 21 = .ok (.aload_n 1, 1) := by decide +kernel
theorem dX6_newAsk_22 : decode cX6_newAsk 22 = .ok (.getfield 138, 3) := by decide +kernel
theorem dX6_newAsk_25 : decode cX6_newAsk 25 = .ok (.aload_n 1, 1) := by decide +kernel
theorem dX6_newAsk_26 : decode cX6_newAsk 26 = .ok (.invokevirtual 133, 3) := by decide +kernel
theorem dX6_newAsk_29 : decode cX6_newAsk 29 = .ok (.isub, 1) := by decide +kernel
theorem dX6_newAsk_30 : decode cX6_newAsk 30 = .ok (.aload_n 0, 1) := by decide +kernel
theorem dX6_newAsk_31 : decode cX6_newAsk 31 = .ok (.getfield 43, 3) := by decide +kernel
theorem dX6_newAsk_34 : decode cX6_newAsk 34 = .ok (.if_icmp .lt 5, 3) := by decide +kernel
theorem dX6_newAsk_37 : decode cX6_newAsk 37 = .ok (.aconst_null, 1) := by decide +kernel
theorem dX6_newAsk_38 : decode cX6_newAsk 38 = .ok (.areturn, 1) := by decide +kernel
theorem dX6_newAsk_39 : decode cX6_newAsk 39 = .ok (.new 21, 3) := by decide +kernel
theorem dX6_newAsk_42 : decode cX6_newAsk 42 = .ok (.dup, 1) := by decide +kernel
theorem dX6_newAsk_43 : decode cX6_newAsk 43 = .ok (.aload_n 0, 1) := by decide +kernel
theorem dX6_newAsk_44 : decode cX6_newAsk 44 = .ok (.getfield 229, 3) := by decide +kernel
theorem dX6_newAsk_47 : decode cX6_newAsk 47 = .ok (.aload_n 1, 1) := by decide +kernel
theorem dX6_newAsk_48 : decode cX6_newAsk 48 = .ok (.getfield 183, 3) := by decide +kernel
theorem dX6_newAsk_51 : decode cX6_newAsk 51 = .ok (.aload_n 1, 1) := by decide +kernel
theorem dX6_newAsk_52 : decode cX6_newAsk 52 = .ok (.getfield 137, 3) := by decide +kernel
theorem dX6_newAsk_55 : decode cX6_newAsk 55 = .ok (.aload_n 1, 1) := by decide +kernel
theorem dX6_newAsk_56 : decode cX6_newAsk 56 = .ok (.getfield 138, 3) := by decide +kernel
theorem dX6_newAsk_59 : decode cX6_newAsk 59 = .ok (.invokespecial 249, 3) := by decide +kernel
theorem dX6_newAsk_62 : decode cX6_newAsk 62 = .ok (.astore 8, 2) := by decide +kernel
theorem dX6_newAsk_64 : decode cX6_newAsk 64 = .ok (.aload 8, 2) := by decide +kernel
theorem dX6_newAsk_66 : decode cX6_newAsk 66 = .ok (.iload_n 2, 1) := by decide +kernel
theorem dX6_newAsk_67 : decode cX6_newAsk 67 = .ok (.putfield 108, 3) := by decide +kernel
theorem dX6_newAsk_70 : decode cX6_newAsk 70 = .ok (.aload 8, 2) := by decide +kernel
theorem dX6_newAsk_72 : decode cX6_newAsk 72 = .ok (.iload_n 3, 1) := by decide +kernel
theorem dX6_newAsk_73 : decode cX6_newAsk 73 = .ok (.putfield 111, 3) := by decide +kernel
theorem dX6_newAsk_76 : decode cX6_newAsk 76 = .ok (.aload 8, 2) := by decide +kernel
theorem dX6_newAsk_78 : decode cX6_newAsk 78 = .ok (.iload 4, 2) := by decide +kernel
theorem dX6_newAsk_80 : decode cX6_newAsk 80 = .ok (.putfield 252, 3) := by decide +kernel
theorem dX6_newAsk_83 : decode cX6_newAsk 83 = .ok (.aload 8, 2) := by decide +kernel
theorem dX6_newAsk_85 : decode cX6_newAsk 85 = .ok (.iload 5, 2) := by decide +kernel
theorem dX6_newAsk_87 : decode cX6_newAsk 87 = .ok (.putfield 255, 3) := by decide +kernel
theorem dX6_newAsk_90 : decode cX6_newAsk 90 = .ok (.aload 8, 2) := by decide +kernel
theorem dX6_newAsk_92 : decode cX6_newAsk 92 = .ok (.iload 6, 2) := by decide +kernel
theorem dX6_newAsk_94 : decode cX6_newAsk 94 = .ok (.putfield 258, 3) := by decide +kernel
theorem dX6_newAsk_97 : decode cX6_newAsk 97 = .ok (.aload 8, 2) := by decide +kernel
theorem dX6_newAsk_99 : decode cX6_newAsk 99 = .ok (.iload 7, 2) := by decide +kernel
theorem dX6_newAsk_101 : decode cX6_newAsk 101 = .ok (.putfield 261, 3) := by decide +kernel
theorem dX6_newAsk_104 : decode cX6_newAsk 104 = .ok (.aload_n 0, 1) := by decide +kernel
theorem dX6_newAsk_105 : decode cX6_newAsk 105 = .ok (.getfield 23, 3) := by decide +kernel
theorem dX6_newAsk_108 : decode cX6_newAsk 108 = .ok (.aload_n 0, 1) := by decide +kernel
theorem dX6_newAsk_109 : decode cX6_newAsk 109 = .ok (.getfield 229, 3) := by decide +kernel
theorem dX6_newAsk_112 : decode cX6_newAsk 112 = .ok (.aload 8, 2) := by decide +kernel
theorem dX6_newAsk_114 : decode cX6_newAsk 114 = .ok (.aastore, 1) := by decide +kernel
theorem dX6_newAsk_115 : decode cX6_newAsk 115 = .ok (.aload_n 0, 1) := by decide +kernel
theorem dX6_newAsk_116 : decode cX6_newAsk 116 = .ok (.dup, 1) := by decide +kernel
theorem dX6_newAsk_117 : decode cX6_newAsk 117 = .ok (.getfield 229, 3) := by decide +kernel
theorem dX6_newAsk_120 : decode cX6_newAsk 120 = .ok (.iconst 1, 1) := by decide +kernel
theorem dX6_newAsk_121 : decode cX6_newAsk 121 = .ok (.iadd, 1) := by decide +kernel
theorem dX6_newAsk_122 : decode cX6_newAsk 122 = .ok (.putfield 229, 3) := by decide +kernel
theorem dX6_newAsk_125 : decode cX6_newAsk 125 = .ok (.aload_n 1, 1) := by decide +kernel
theorem dX6_newAsk_126 : decode cX6_newAsk 126 = .ok (.aload 8, 2) := by decide +kernel
theorem dX6_newAsk_128 : decode cX6_newAsk 128 = .ok (.invokevirtual 264, 3) := by decide +kernel
theorem dX6_newAsk_131 : decode cX6_newAsk 131 = .ok (.aload 8, 2) := by decide +kernel
theorem dX6_newAsk_133 : decode cX6_newAsk 133 = .ok (.areturn, 1) := by decide +kernel
theorem dX6_sendAsk_0 : decode cX6_sendAsk 0 = .ok (.aload_n 0, 1) := by decide +kernel
theorem dX6_sendAsk_1 : decode cX6_sendAsk 1 = .ok (.aload_n 1, 1) := by decide +kernel
theorem dX6_sendAsk_2 : decode cX6_sendAsk 2 = .ok (.getfield 89, 3) := by decide +kernel
theorem dX6_sendAsk_5 : decode cX6_sendAsk 5 = .ok (.invokevirtual 64, 3) := by decide +kernel
theorem dX6_sendAsk_8 : decode cX6_sendAsk 8 = .ok (.astore_n 3, 1) := by decide +kernel
theorem dX6_sendAsk_9 : decode cX6_sendAsk 9 = .ok (.iload_n 2, 1) := by decide +kernel
theorem dX6_sendAsk_10 : decode cX6_sendAsk 10 = .ok (.ifCond .eq 7, 3) := by decide +kernel
theorem dX6_sendAsk_13 : decode cX6_sendAsk 13 = .ok (.aload_n 3, 1) := by decide +kernel
theorem dX6_sendAsk_14 : decode cX6_sendAsk 14 = .ok (.ifnonnull 5, 3) := by decide +kernel
theorem dX6_sendAsk_17 : decode cX6_sendAsk 17 = .ok (.iconst 0, 1) := by decide +kernel
theorem dX6_sendAsk_18 : decode cX6_sendAsk 18 = .ok (.ireturn, 1) := by decide +kernel
theorem dX6_sendAsk_19 : decode cX6_sendAsk 19 = .ok (.aload_n 0, 1) := by decide +kernel
theorem dX6_sendAsk_20 : decode cX6_sendAsk 20 = .ok (.getfield 30, 3) := by decide +kernel
theorem dX6_sendAsk_23 : decode cX6_sendAsk 23 = .ok (.invokevirtual 154, 3) := by decide +kernel
theorem dX6_sendAsk_26 : decode cX6_sendAsk 26 = .ok (.astore 4, 2) := by decide +kernel
theorem dX6_sendAsk_28 : decode cX6_sendAsk 28 = .ok (.aload 4, 2) := by decide +kernel
theorem dX6_sendAsk_30 : decode cX6_sendAsk 30 = .ok (.ifnull 13, 3) := by decide +kernel
theorem dX6_sendAsk_33 : decode cX6_sendAsk 33 = .ok (.aload 4, 2) := by decide +kernel
theorem dX6_sendAsk_35 : decode cX6_sendAsk 35 = .ok (.aload_n 1, 1) := by decide +kernel
theorem dX6_sendAsk_36 : decode cX6_sendAsk 36 = .ok (.aload_n 3, 1) := by decide +kernel
theorem dX6_sendAsk_37 : decode cX6_sendAsk 37 = .ok (.invokevirtual 133, 3) := by decide +kernel
theorem dX6_sendAsk_40 : decode cX6_sendAsk 40 = .ok (.invokevirtual 268, 3) := by decide +kernel
theorem dX6_sendAsk_43 : decode cX6_sendAsk 43 = .ok (.iconst 1, 1) := by decide +kernel
theorem dX6_sendAsk_44 : decode cX6_sendAsk 44 = .ok (.ireturn, 1) := by decide +kernel
theorem dX6_sendAnswer_0 : decode cX6_sendAnswer 0 = .ok (.iload 4, 2) := by decide +kernel
theorem dX6_sendAnswer_2 : decode cX6_sendAnswer 2 = .ok (.ifCond .ne 5, 3) := by decide +kernel
theorem dX6_sendAnswer_5 : decode cX6_sendAnswer 5 = .ok (.iconst 0, 1) := by decide +kernel
theorem dX6_sendAnswer_6 : decode cX6_sendAnswer 6 = .ok (.ireturn, 1) := by decide +kernel
theorem dX6_sendAnswer_7 : decode cX6_sendAnswer 7 = .ok (.aload_n 0, 1) := by decide +kernel
theorem dX6_sendAnswer_8 : decode cX6_sendAnswer 8 = .ok (.getfield 30, 3) := by decide +kernel
theorem dX6_sendAnswer_11 : decode cX6_sendAnswer 11 = .ok (.invokevirtual 154, 3) := by decide +kernel
theorem dX6_sendAnswer_14 : decode cX6_sendAnswer 14 = .ok (.astore 5, 2) := by decide +kernel
theorem dX6_sendAnswer_16 : decode cX6_sendAnswer 16 = .ok (.aload 5, 2) := by decide +kernel
theorem dX6_sendAnswer_18 : decode cX6_sendAnswer 18 = .ok (.ifnull 10, 3) := by decide +kernel
theorem dX6_sendAnswer_21 : decode cX6_sendAnswer 21 = .ok (.aload 5, 2) := by decide +kernel
theorem dX6_sendAnswer_23 : decode cX6_sendAnswer 23 = .ok (.aload_n 1, 1) := by decide +kernel
theorem dX6_sendAnswer_24 : decode cX6_sendAnswer 24 = .ok (.lload_n 2, 1) := by decide +kernel
theorem dX6_sendAnswer_25 : decode cX6_sendAnswer 25 = .ok (.invokevirtual 271, 3) := by decide +kernel
theorem dX6_sendAnswer_28 : decode cX6_sendAnswer 28 = .ok (.iconst 1, 1) := by decide +kernel
theorem dX6_sendAnswer_29 : decode cX6_sendAnswer 29 = .ok (.ireturn, 1) := by decide +kernel
theorem dX6_sendOver_0 : decode cX6_sendOver 0 = .ok (.iload_n 2, 1) := by decide +kernel
theorem dX6_sendOver_1 : decode cX6_sendOver 1 = .ok (.ifCond .ne 5, 3) := by decide +kernel
theorem dX6_sendOver_4 : decode cX6_sendOver 4 = .ok (.iconst 0, 1) := by decide +kernel
theorem dX6_sendOver_5 : decode cX6_sendOver 5 = .ok (.ireturn, 1) := by decide +kernel
theorem dX6_sendOver_6 : decode cX6_sendOver 6 = .ok (.aload_n 0, 1) := by decide +kernel
theorem dX6_sendOver_7 : decode cX6_sendOver 7 = .ok (.getfield 30, 3) := by decide +kernel
theorem dX6_sendOver_10 : decode cX6_sendOver 10 = .ok (.invokevirtual 154, 3) := by decide +kernel
theorem dX6_sendOver_13 : decode cX6_sendOver 13 = .ok (.astore_n 3, 1) := by decide +kernel
theorem dX6_sendOver_14 : decode cX6_sendOver 14 = .ok (.aload_n 3, 1) := by decide +kernel
theorem dX6_sendOver_15 : decode cX6_sendOver 15 = .ok (.ifnull 8, 3) := by decide +kernel
theorem dX6_sendOver_18 : decode cX6_sendOver 18 = .ok (.aload_n 3, 1) := by decide +kernel
theorem dX6_sendOver_19 : decode cX6_sendOver 19 = .ok (.aload_n 1, 1) := by decide +kernel
theorem dX6_sendOver_20 : decode cX6_sendOver 20 = .ok (.invokevirtual 275, 3) := by decide +kernel
theorem dX6_sendOver_23 : decode cX6_sendOver 23 = .ok (.iconst 1, 1) := by decide +kernel
theorem dX6_sendOver_24 : decode cX6_sendOver 24 = .ok (.ireturn, 1) := by decide +kernel
theorem dX6_come_0 : decode cX6_come 0 = .ok (.aload_n 0, 1) := by decide +kernel
theorem dX6_come_1 : decode cX6_come 1 = .ok (.getfield 30, 3) := by decide +kernel
theorem dX6_come_4 : decode cX6_come 4 = .ok (.iload_n 1, 1) := by decide +kernel
theorem dX6_come_5 : decode cX6_come 5 = .ok (.invokevirtual 148, 3) := by decide +kernel
theorem dX6_come_8 : decode cX6_come 8 = .ok (.astore_n 3, 1) := by decide +kernel
theorem dX6_come_9 : decode cX6_come 9 = .ok (.aload_n 3, 1) := by decide +kernel
theorem dX6_come_10 : decode cX6_come 10 = .ok (.ifnull 10, 3) := by decide +kernel
theorem dX6_come_13 : decode cX6_come 13 = .ok (.aload_n 3, 1) := by decide +kernel
theorem dX6_come_14 : decode cX6_come 14 = .ok (.getfield 167, 3) := by decide +kernel
theorem dX6_come_17 : decode cX6_come 17 = .ok (.ifnonnull 5, 3) := by decide +kernel
theorem dX6_come_20 : decode cX6_come 20 = .ok (.iconst 0, 1) := by decide +kernel
theorem dX6_come_21 : decode cX6_come 21 = .ok (.ireturn, 1) := by decide +kernel
theorem dX6_come_22 : decode cX6_come 22 = .ok (.aload_n 0, 1) := by decide +kernel
theorem dX6_come_23 : decode cX6_come 23 = .ok (.getfield 30, 3) := by decide +kernel
theorem dX6_come_26 : decode cX6_come 26 = .ok (.dup, 1) := by decide +kernel
theorem dX6_come_27 : decode cX6_come 27 = .ok (.getfield 235, 3) := by decide +kernel
theorem dX6_come_30 : decode cX6_come 30 = .ok (.iconst 1, 1) := by decide +kernel
theorem dX6_come_31 : decode cX6_come 31 = .ok (.iadd, 1) := by decide +kernel
theorem dX6_come_32 : decode cX6_come 32 = .ok (.putfield 235, 3) := by decide +kernel
theorem dX6_come_35 : decode cX6_come 35 = .ok (.aload_n 3, 1) := by decide +kernel
theorem dX6_come_36 : decode cX6_come 36 = .ok (.getfield 167, 3) := by decide +kernel
theorem dX6_come_39 : decode cX6_come 39 = .ok (.astore 4, 2) := by decide +kernel
theorem dX6_come_41 : decode cX6_come 41 = .ok (.aload_n 0, 1) := by decide +kernel
theorem dX6_come_42 : decode cX6_come 42 = .ok (.aload_n 3, 1) := by decide +kernel
theorem dX6_come_43 : decode cX6_come 43 = .ok (.getfield 170, 3) := by decide +kernel
theorem dX6_come_46 : decode cX6_come 46 = .ok (.ifCond .eq 11, 3) := by decide +kernel
theorem dX6_come_49 : decode cX6_come 49 = .ok (.aload 4, 2) := by decide +kernel
theorem dX6_come_51 : decode cX6_come 51 = .ok (.getfield 89, 3) := by decide +kernel
theorem dX6_come_54 : decode cX6_come 54 = .ok (.goto 11, 3) := by decide +kernel
theorem dX6_come_57 : decode cX6_come 57 = .ok (.bipush 6, 2) := by decide +kernel
theorem dX6_come_59 : decode cX6_come 59 = .ok (.aload 4, 2) := by decide +kernel
theorem dX6_come_61 : decode cX6_come 61 = .ok (.getfield 108, 3) := by decide +kernel
theorem dX6_come_64 : decode cX6_come 64 = .ok (.iadd, 1) := by decide +kernel
theorem dX6_come_65 : decode cX6_come 65 = .ok (.invokevirtual 64, 3) := by decide +kernel
theorem dX6_come_68 : decode cX6_come 68 = .ok (.astore 5, 2) := by decide +kernel
theorem dX6_come_70 : decode cX6_come 70 = .ok (.aload 5, 2) := by decide +kernel
theorem dX6_come_72 : decode cX6_come 72 = .ok (.ifnull 11, 3) := by decide +kernel
theorem dX6_come_75 : decode cX6_come 75 = .ok (.aload 5, 2) := by decide +kernel
theorem dX6_come_77 : decode cX6_come 77 = .ok (.getfield 68, 3) := by decide +kernel
theorem dX6_come_80 : decode cX6_come 80 = .ok (.ifCond .ne 5, 3) := by decide +kernel
theorem dX6_come_83 : decode cX6_come 83 = .ok (.iconst 0, 1) := by decide +kernel
theorem dX6_come_84 : decode cX6_come 84 = .ok (.ireturn, 1) := by decide +kernel
theorem dX6_come_85 : decode cX6_come 85 = .ok (.iconst 0, 1) := by decide +kernel
theorem dX6_come_86 : decode cX6_come 86 = .ok (.istore 6, 2) := by decide +kernel
theorem dX6_come_88 : decode cX6_come 88 = .ok (.iload_n 2, 1) := by decide +kernel
theorem dX6_come_89 : decode cX6_come 89 = .ok (.ifCond .eq 60, 3) := by decide +kernel
theorem dX6_come_92 : decode cX6_come 92 = .ok (.aload_n 3, 1) := by decide +kernel
theorem dX6_come_93 : decode cX6_come 93 = .ok (.getfield 164, 3) := by decide +kernel
theorem dX6_come_96 : decode cX6_come 96 = .ok (.ifCond .ne 53, 3) := by decide +kernel
theorem dX6_come_99 : decode cX6_come 99 = .ok (.aload_n 3, 1) := by decide +kernel
theorem dX6_come_100 : decode cX6_come 100 = .ok (.getfield 170, 3) := by decide +kernel
theorem dX6_come_103 : decode cX6_come 103 = .ok (.ifCond .ne 16, 3) := by decide +kernel
theorem dX6_come_106 : decode cX6_come 106 = .ok (.aload_n 0, 1) := by decide +kernel
theorem dX6_come_107 : decode cX6_come 107 = .ok (.aload_n 3, 1) := by decide +kernel
theorem dX6_come_108 : decode cX6_come 108 = .ok (.aload 4, 2) := by decide +kernel
theorem dX6_come_110 : decode cX6_come 110 = .ok (.iload_n 2, 1) := by decide +kernel
theorem dX6_come_111 : decode cX6_come 111 = .ok (.invokevirtual 278, 3) := by decide +kernel
theorem dX6_come_114 : decode cX6_come 114 = .ok (.istore 6, 2) := by decide +kernel
theorem dX6_come_116 : decode cX6_come 116 = .ok (.goto 33, 3) := by decide +kernel
theorem dX6_come_119 : decode cX6_come 119 = .ok (.aload 5, 2) := by decide +kernel
theorem dX6_come_121 : decode cX6_come 121 = .ok (.getfield 183, 3) := by decide +kernel
theorem dX6_come_124 : decode cX6_come 124 = .ok (.bipush 6, 2) := by decide +kernel
theorem dX6_come_126 : decode cX6_come 126 = .ok (.if_icmp .ge 13, 3) := by decide +kernel
theorem dX6_come_129 : decode cX6_come 129 = .ok (.aload_n 0, 1) := by decide +kernel
theorem dX6_come_130 : decode cX6_come 130 = .ok (.aload_n 3, 1) := by decide +kernel
theorem dX6_come_131 : decode cX6_come 131 = .ok (.aload 4, 2) := by decide +kernel
theorem dX6_come_133 : decode cX6_come 133 = .ok (.invokevirtual 282, 3) := by decide +kernel
theorem dX6_come_136 : decode cX6_come 136 = .ok (.goto 13, 3) := by decide +kernel
theorem dX6_come_139 : decode cX6_come 139 = .ok (.aload_n 0, 1) := by decide +kernel
theorem dX6_come_140 : decode cX6_come 140 = .ok (.aload_n 3, 1) := by decide +kernel
theorem dX6_come_141 : decode cX6_come 141 = .ok (.aload 4, 2) := by decide +kernel
theorem dX6_come_143 : decode cX6_come 143 = .ok (.iload_n 2, 1) := by decide +kernel
theorem dX6_come_144 : decode cX6_come 144 = .ok (.invokevirtual 286, 3) := by decide +kernel
theorem dX6_come_147 : decode cX6_come 147 = .ok (.istore 6, 2) := by decide +kernel
theorem dX6_come_149 : decode cX6_come 149 = .ok (.iload_n 2, 1) := by decide +kernel
theorem dX6_come_150 : decode cX6_come 150 = .ok (.iconst 3, 1) := by decide +kernel
theorem dX6_come_151 : decode cX6_come 151 = .ok (.if_icmp .eq 9, 3) := by decide +kernel
theorem dX6_come_154 : decode cX6_come 154 = .ok (.aload_n 0, 1) := by decide +kernel
theorem dX6_come_155 : decode cX6_come 155 = .ok (.aload 5, 2) := by decide +kernel
theorem dX6_come_157 : decode cX6_come 157 = .ok (.invokevirtual 179, 3) := by decide +kernel
theorem dX6_come_160 : decode cX6_come 160 = .ok (.iload 6, 2) := by decide +kernel
theorem dX6_come_162 : decode cX6_come 162 = .ok (.ireturn, 1) := by decide +kernel
theorem dX6_hear_0 : decode cX6_hear 0 = .ok (.aload_n 2, 1) := by decide +kernel
theorem dX6_hear_1 : decode cX6_hear 1 = .ok (.getfield 92, 3) := by decide +kernel
theorem dX6_hear_4 : decode cX6_hear 4 = .ok (.ifCond .eq 4, 3) := by decide +kernel
theorem dX6_hear_7 : decode cX6_hear 7 = .ok (.return_, 1) := by decide +kernel
theorem dX6_hear_8 : decode cX6_hear 8 = .ok (.aload_n 1, 1) := by decide +kernel
theorem dX6_hear_9 : decode cX6_hear 9 = .ok (.getfield 176, 3) := by decide +kernel
theorem dX6_hear_12 : decode cX6_hear 12 = .ok (.ifCond .eq 11, 3) := by decide +kernel
theorem dX6_hear_15 : decode cX6_hear 15 = .ok (.aload_n 2, 1) := by decide +kernel
theorem dX6_hear_16 : decode cX6_hear 16 = .ok (.iconst 2, 1) := by decide +kernel
theorem dX6_hear_17 : decode cX6_hear 17 = .ok (.putfield 92, 3) := by decide +kernel
theorem dX6_hear_20 : decode cX6_hear 20 = .ok (.goto 11, 3) := by decide +kernel
theorem dX6_hear_23 : decode cX6_hear 23 = .ok (.aload_n 2, 1) := by decide +kernel
theorem dX6_hear_24 : decode cX6_hear 24 = .ok (.aload_n 1, 1) := by decide +kernel
theorem dX6_hear_25 : decode cX6_hear 25 = .ok (.getfield 289, 3) := by decide +kernel
theorem dX6_hear_28 : decode cX6_hear 28 = .ok (.invokevirtual 290, 3) := by decide +kernel
theorem dX6_hear_31 : decode cX6_hear 31 = .ok (.return_, 1) := by decide +kernel
theorem dX6_serve_0 : decode cX6_serve 0 = .ok (.aload_n 0, 1) := by decide +kernel
theorem dX6_serve_1 : decode cX6_serve 1 = .ok (.aload_n 2, 1) := by decide +kernel
theorem dX6_serve_2 : decode cX6_serve 2 = .ok (.getfield 108, 3) := by decide +kernel
theorem dX6_serve_5 : decode cX6_serve 5 = .ok (.invokevirtual 51, 3) := by decide +kernel
theorem dX6_serve_8 : decode cX6_serve 8 = .ok (.astore 4, 2) := by decide +kernel
theorem dX6_serve_10 : decode cX6_serve 10 = .ok (.aload_n 0, 1) := by decide +kernel
theorem dX6_serve_11 : decode cX6_serve 11 = .ok (.aload_n 2, 1) := by decide +kernel
theorem dX6_serve_12 : decode cX6_serve 12 = .ok (.getfield 108, 3) := by decide +kernel
theorem dX6_serve_15 : decode cX6_serve 15 = .ok (.aload_n 2, 1) := by decide +kernel
theorem dX6_serve_16 : decode cX6_serve 16 = .ok (.getfield 89, 3) := by decide +kernel
theorem dX6_serve_19 : decode cX6_serve 19 = .ok (.invokevirtual 191, 3) := by decide +kernel
theorem dX6_serve_22 : decode cX6_serve 22 = .ok (.astore 5, 2) := by decide +kernel
theorem dX6_serve_24 : decode cX6_serve 24 = .ok (.aload 4, 2) := by decide +kernel
theorem dX6_serve_26 : decode cX6_serve 26 = .ok (.ifnull 8, 3) := by decide +kernel
theorem dX6_serve_29 : decode cX6_serve 29 = .ok (.aload 5, 2) := by decide +kernel
theorem dX6_serve_31 : decode cX6_serve 31 = .ok (.ifnonnull 5, 3) := by decide +kernel
theorem dX6_serve_34 : decode cX6_serve 34 = .ok (.iconst 0, 1) := by decide +kernel
theorem dX6_serve_35 : decode cX6_serve 35 = .ok (.ireturn, 1) := by decide +kernel
theorem dX6_serve_36 : decode cX6_serve 36 = .ok (.iload_n 3, 1) := by decide +kernel
theorem dX6_serve_37 : decode cX6_serve 37 = .ok (.iconst 3, 1) := by decide +kernel
theorem dX6_serve_38 : decode cX6_serve 38 = .ok (.if_icmp .ne 7, 3) := by decide +kernel
theorem dX6_serve_41 : decode cX6_serve 41 = .ok (.iconst 1, 1) := by decide +kernel
theorem dX6_serve_42 : decode cX6_serve 42 = .ok (.goto 4, 3) := by decide +kernel
theorem dX6_serve_45 : decode cX6_serve 45 = .ok (.iconst 0, 1) := by decide +kernel
theorem dX6_serve_46 : decode cX6_serve 46 = .ok (.istore 6, 2) := by decide +kernel
theorem dX6_serve_48 : decode cX6_serve 48 = .ok (.aload_n 2, 1) := by decide +kernel
theorem dX6_serve_49 : decode cX6_serve 49 = .ok (.getfield 102, 3) := by decide +kernel
theorem dX6_serve_52 : decode cX6_serve 52 = .ok (.aload 5, 2) := by decide +kernel
theorem dX6_serve_54 : decode cX6_serve 54 = .ok (.getfield 195, 3) := by decide +kernel
theorem dX6_serve_57 : decode cX6_serve 57 = .ok (.if_icmp .ge 11, 3) := by decide +kernel
theorem dX6_serve_60 : decode cX6_serve 60 = .ok (.aload_n 0, 1) := by decide +kernel
theorem dX6_serve_61 : decode cX6_serve 61 = .ok (.aload_n 2, 1) := by decide +kernel
theorem dX6_serve_62 : decode cX6_serve 62 = .ok (.iload 6, 2) := by decide +kernel
theorem dX6_serve_64 : decode cX6_serve 64 = .ok (.invokevirtual 294, 3) := by decide +kernel
theorem dX6_serve_67 : decode cX6_serve 67 = .ok (.ireturn, 1) := by decide +kernel
theorem dX6_serve_68 : decode cX6_serve 68 = .ok (.aload_n 2, 1) := by decide +kernel
theorem dX6_serve_69 : decode cX6_serve 69 = .ok (.getfield 102, 3) := by decide +kernel
theorem dX6_serve_72 : decode cX6_serve 72 = .ok (.aload 5, 2) := by decide +kernel
theorem dX6_serve_74 : decode cX6_serve 74 = .ok (.getfield 195, 3) := by decide +kernel
theorem dX6_serve_77 : decode cX6_serve 77 = .ok (.if_icmp .le 12, 3) := by decide +kernel
theorem dX6_serve_80 : decode cX6_serve 80 = .ok (.aload 5, 2) := by decide +kernel
theorem dX6_serve_82 : decode cX6_serve 82 = .ok (.aload_n 2, 1) := by decide +kernel
theorem dX6_serve_83 : decode cX6_serve 83 = .ok (.getfield 102, 3) := by decide +kernel
theorem dX6_serve_86 : decode cX6_serve 86 = .ok (.invokevirtual 211, 3) := by decide +kernel
theorem dX6_serve_89 : decode cX6_serve 89 = .ok (.aload 5, 2) := by decide +kernel
theorem dX6_serve_91 : decode cX6_serve 91 = .ok (.aload_n 1, 1) := by decide +kernel
theorem dX6_serve_92 : decode cX6_serve 92 = .ok (.getfield 173, 3) := by decide +kernel
theorem dX6_serve_95 : decode cX6_serve 95 = .ok (.invokevirtual 297, 3) := by decide +kernel
theorem dX6_serve_98 : decode cX6_serve 98 = .ok (.iload_n 3, 1) := by decide +kernel
theorem dX6_serve_99 : decode cX6_serve 99 = .ok (.iconst 1, 1) := by decide +kernel
theorem dX6_serve_100 : decode cX6_serve 100 = .ok (.if_icmp .eq 15, 3) := by decide +kernel
theorem dX6_serve_103 : decode cX6_serve 103 = .ok (.aload_n 2, 1) := by decide +kernel
theorem dX6_serve_104 : decode cX6_serve 104 = .ok (.getfield 105, 3) := by decide +kernel
theorem dX6_serve_107 : decode cX6_serve 107 = .ok (.aload 5, 2) := by decide +kernel
theorem dX6_serve_109 : decode cX6_serve 109 = .ok (.getfield 198, 3) := by decide +kernel
theorem dX6_serve_112 : decode cX6_serve 112 = .ok (.if_icmp .ge 5, 3) := by decide +kernel
theorem dX6_serve_115 : decode cX6_serve 115 = .ok (.iconst 0, 1) := by decide +kernel
theorem dX6_serve_116 : decode cX6_serve 116 = .ok (.ireturn, 1) := by decide +kernel
theorem dX6_serve_117 : decode cX6_serve 117 = .ok (.aload 5, 2) := by decide +kernel
theorem dX6_serve_119 : decode cX6_serve 119 = .ok (.aload_n 2, 1) := by decide +kernel
theorem dX6_serve_120 : decode cX6_serve 120 = .ok (.getfield 105, 3) := by decide +kernel
theorem dX6_serve_123 : decode cX6_serve 123 = .ok (.invokevirtual 204, 3) := by decide +kernel
theorem dX6_serve_126 : decode cX6_serve 126 = .ok (.lookupswitch 49 #[(0, 26), (2, 38)], 26) := by decide +kernel
theorem dX6_serve_152 : decode cX6_serve 152 = .ok (.aload_n 0, 1) := by decide +kernel
theorem dX6_serve_153 : decode cX6_serve 153 = .ok (.aload 4, 2) := by decide +kernel
theorem dX6_serve_155 : decode cX6_serve 155 = .ok (.aload 5, 2) := by decide +kernel
theorem dX6_serve_157 : decode cX6_serve 157 = .ok (.aload_n 2, 1) := by decide +kernel
theorem dX6_serve_158 : decode cX6_serve 158 = .ok (.iload 6, 2) := by decide +kernel
theorem dX6_serve_160 : decode cX6_serve 160 = .ok (.invokevirtual 300, 3) := by decide +kernel
theorem dX6_serve_163 : decode cX6_serve 163 = .ok (.ireturn, 1) := by decide +kernel
theorem dX6_serve_164 : decode cX6_serve 164 = .ok (.aload_n 0, 1) := by decide +kernel
theorem dX6_serve_165 : decode cX6_serve 165 = .ok (.aload_n 2, 1) := by decide +kernel
theorem dX6_serve_166 : decode cX6_serve 166 = .ok (.getfield 122, 3) := by decide +kernel
theorem dX6_serve_169 : decode cX6_serve 169 = .ok (.iload 6, 2) := by decide +kernel
theorem dX6_serve_171 : decode cX6_serve 171 = .ok (.invokevirtual 304, 3) := by decide +kernel
theorem dX6_serve_174 : decode cX6_serve 174 = .ok (.ireturn, 1) := by decide +kernel
theorem dX6_serve_175 : decode cX6_serve 175 = .ok (.aload_n 0, 1) := by decide +kernel
theorem dX6_serve_176 : decode cX6_serve 176 = .ok (.aload_n 2, 1) := by decide +kernel
theorem dX6_serve_177 : decode cX6_serve 177 = .ok (.aload 5, 2) := by decide +kernel
theorem dX6_serve_179 : decode cX6_serve 179 = .ok (.aload_n 2, 1) := by decide +kernel
theorem dX6_serve_180 : decode cX6_serve 180 = .ok (.getfield 105, 3) := by decide +kernel
theorem dX6_serve_183 : decode cX6_serve 183 = .ok (.invokevirtual 307, 3) := by decide +kernel
theorem dX6_serve_186 : decode cX6_serve 186 = .ok (.iload 6, 2) := by decide +kernel
theorem dX6_serve_188 : decode cX6_serve 188 = .ok (.invokevirtual 310, 3) := by decide +kernel
theorem dX6_serve_191 : decode cX6_serve 191 = .ok (.ireturn, 1) := by decide +kernel
theorem dX6_remind_0 : decode cX6_remind 0 = .ok (.aload_n 1, 1) := by decide +kernel
theorem dX6_remind_1 : decode cX6_remind 1 = .ok (.ifnull 19, 3) := by decide +kernel
theorem dX6_remind_4 : decode cX6_remind 4 = .ok (.aload_n 1, 1) := by decide +kernel
theorem dX6_remind_5 : decode cX6_remind 5 = .ok (.getfield 92, 3) := by decide +kernel
theorem dX6_remind_8 : decode cX6_remind 8 = .ok (.ifCond .ne 12, 3) := by decide +kernel
theorem dX6_remind_11 : decode cX6_remind 11 = .ok (.aload_n 0, 1) := by decide +kernel
theorem dX6_remind_12 : decode cX6_remind 12 = .ok (.aload_n 1, 1) := by decide +kernel
theorem dX6_remind_13 : decode cX6_remind 13 = .ok (.iload_n 2, 1) := by decide +kernel
theorem dX6_remind_14 : decode cX6_remind 14 = .ok (.invokevirtual 78, 3) := by decide +kernel
theorem dX6_remind_17 : decode cX6_remind 17 = .ok (.goto 4, 3) := by decide +kernel
theorem dX6_remind_20 : decode cX6_remind 20 = .ok (.iconst 0, 1) := by decide +kernel
theorem dX6_remind_21 : decode cX6_remind 21 = .ok (.ireturn, 1) := by decide +kernel
theorem dX6_act_0 : decode cX6_act 0 = .ok (.aload_n 3, 1) := by decide +kernel
theorem dX6_act_1 : decode cX6_act 1 = .ok (.getfield 111, 3) := by decide +kernel
theorem dX6_act_4 : decode cX6_act 4 = .ok (.ifCond .ne 19, 3) := by decide +kernel
theorem dX6_act_7 : decode cX6_act 7 = .ok (.aload_n 0, 1) := by decide +kernel
theorem dX6_act_8 : decode cX6_act 8 = .ok (.aload_n 3, 1) := by decide +kernel
theorem dX6_act_9 : decode cX6_act 9 = .ok (.aload_n 1, 1) := by decide +kernel
theorem dX6_act_10 : decode cX6_act 10 = .ok (.aload_n 3, 1) := by decide +kernel
theorem dX6_act_11 : decode cX6_act 11 = .ok (.getfield 252, 3) := by decide +kernel
theorem dX6_act_14 : decode cX6_act 14 = .ok (.invokevirtual 187, 3) := by decide +kernel
theorem dX6_act_17 : decode cX6_act 17 = .ok (.iload 4, 2) := by decide +kernel
theorem dX6_act_19 : decode cX6_act 19 = .ok (.invokevirtual 310, 3) := by decide +kernel
theorem dX6_act_22 : decode cX6_act 22 = .ok (.ireturn, 1) := by decide +kernel
theorem dX6_act_23 : decode cX6_act 23 = .ok (.aload_n 3, 1) := by decide +kernel
theorem dX6_act_24 : decode cX6_act 24 = .ok (.getfield 111, 3) := by decide +kernel
theorem dX6_act_27 : decode cX6_act 27 = .ok (.iconst 3, 1) := by decide +kernel
theorem dX6_act_28 : decode cX6_act 28 = .ok (.if_icmp .ne 13, 3) := by decide +kernel
theorem dX6_act_31 : decode cX6_act 31 = .ok (.aload_n 0, 1) := by decide +kernel
theorem dX6_act_32 : decode cX6_act 32 = .ok (.aload_n 1, 1) := by decide +kernel
theorem dX6_act_33 : decode cX6_act 33 = .ok (.aload_n 2, 1) := by decide +kernel
theorem dX6_act_34 : decode cX6_act 34 = .ok (.aload_n 3, 1) := by decide +kernel
theorem dX6_act_35 : decode cX6_act 35 = .ok (.invokevirtual 314, 3) := by decide +kernel
theorem dX6_act_38 : decode cX6_act 38 = .ok (.goto 4, 3) := by decide +kernel
theorem dX6_act_41 : decode cX6_act 41 = .ok (.aconst_null, 1) := by decide +kernel
theorem dX6_act_42 : decode cX6_act 42 = .ok (.astore 5, 2) := by decide +kernel
theorem dX6_act_44 : decode cX6_act 44 = .ok (.aload 5, 2) := by decide +kernel
theorem dX6_act_46 : decode cX6_act 46 = .ok (.ifnull 12, 3) := by decide +kernel
theorem dX6_act_49 : decode cX6_act 49 = .ok (.aload_n 0, 1) := by decide +kernel
theorem dX6_act_50 : decode cX6_act 50 = .ok (.aload 5, 2) := by decide +kernel
theorem dX6_act_52 : decode cX6_act 52 = .ok (.iload 4, 2) := by decide +kernel
theorem dX6_act_54 : decode cX6_act 54 = .ok (.invokevirtual 78, 3) := by decide +kernel
theorem dX6_act_57 : decode cX6_act 57 = .ok (.ireturn, 1) := by decide +kernel
theorem dX6_act_58 : decode cX6_act 58 = .ok (.ldc2_w 318, 3) := by decide +kernel
theorem dX6_act_61 : decode cX6_act 61 = .ok (.lstore 6, 2) := by decide +kernel
theorem dX6_act_63 : decode cX6_act 63 = .ok (.aload_n 3, 1) := by decide +kernel
theorem dX6_act_64 : decode cX6_act 64 = .ok (.getfield 111, 3) := by decide +kernel
theorem dX6_act_67 : decode cX6_act 67 = .ok (.iconst 1, 1) := by decide +kernel
theorem dX6_act_68 : decode cX6_act 68 = .ok (.if_icmp .ne 11, 3) := by decide +kernel
theorem dX6_act_71 : decode cX6_act 71 = .ok (.aload_n 0, 1) := by decide +kernel
theorem dX6_act_72 : decode cX6_act 72 = .ok (.aload_n 1, 1) := by decide +kernel
theorem dX6_act_73 : decode cX6_act 73 = .ok (.aload_n 3, 1) := by decide +kernel
theorem dX6_act_74 : decode cX6_act 74 = .ok (.invokevirtual 320, 3) := by decide +kernel
theorem dX6_act_77 : decode cX6_act 77 = .ok (.lstore 6, 2) := by decide +kernel
theorem dX6_act_79 : decode cX6_act 79 = .ok (.aload_n 3, 1) := by decide +kernel
theorem dX6_act_80 : decode cX6_act 80 = .ok (.getfield 111, 3) := by decide +kernel
theorem dX6_act_83 : decode cX6_act 83 = .ok (.iconst 2, 1) := by decide +kernel
theorem dX6_act_84 : decode cX6_act 84 = .ok (.if_icmp .ne 11, 3) := by decide +kernel
theorem dX6_act_87 : decode cX6_act 87 = .ok (.aload_n 0, 1) := by decide +kernel
theorem dX6_act_88 : decode cX6_act 88 = .ok (.aload_n 1, 1) := by decide +kernel
theorem dX6_act_89 : decode cX6_act 89 = .ok (.aload_n 3, 1) := by decide +kernel
theorem dX6_act_90 : decode cX6_act 90 = .ok (.invokevirtual 324, 3) := by decide +kernel
theorem dX6_act_93 : decode cX6_act 93 = .ok (.lstore 6, 2) := by decide +kernel
theorem dX6_act_95 : decode cX6_act 95 = .ok (.aload_n 3, 1) := by decide +kernel
theorem dX6_act_96 : decode cX6_act 96 = .ok (.getfield 111, 3) := by decide +kernel
theorem dX6_act_99 : decode cX6_act 99 = .ok (.iconst 4, 1) := by decide +kernel
theorem dX6_act_100 : decode cX6_act 100 = .ok (.if_icmp .ne 11, 3) := by decide +kernel
theorem dX6_act_103 : decode cX6_act 103 = .ok (.aload_n 0, 1) := by decide +kernel
theorem dX6_act_104 : decode cX6_act 104 = .ok (.aload_n 2, 1) := by decide +kernel
theorem dX6_act_105 : decode cX6_act 105 = .ok (.aload_n 3, 1) := by decide +kernel
theorem dX6_act_106 : decode cX6_act 106 = .ok (.invokevirtual 327, 3) := by decide +kernel
theorem dX6_act_109 : decode cX6_act 109 = .ok (.lstore 6, 2) := by decide +kernel
theorem dX6_act_111 : decode cX6_act 111 = .ok (.aload_n 2, 1) := by decide +kernel
theorem dX6_act_112 : decode cX6_act 112 = .ok (.aload_n 3, 1) := by decide +kernel
theorem dX6_act_113 : decode cX6_act 113 = .ok (.getfield 105, 3) := by decide +kernel
theorem dX6_act_116 : decode cX6_act 116 = .ok (.iconst 1, 1) := by decide +kernel
theorem dX6_act_117 : decode cX6_act 117 = .ok (.lload 6, 2) := by decide +kernel
theorem dX6_act_119 : decode cX6_act 119 = .ok (.invokevirtual 331, 3) := by decide +kernel
theorem dX6_act_122 : decode cX6_act 122 = .ok (.aload_n 0, 1) := by decide +kernel
theorem dX6_act_123 : decode cX6_act 123 = .ok (.aload_n 3, 1) := by decide +kernel
theorem dX6_act_124 : decode cX6_act 124 = .ok (.lload 6, 2) := by decide +kernel
theorem dX6_act_126 : decode cX6_act 126 = .ok (.iload 4, 2) := by decide +kernel
theorem dX6_act_128 : decode cX6_act 128 = .ok (.invokevirtual 310, 3) := by decide +kernel
theorem dX6_act_131 : decode cX6_act 131 = .ok (.ireturn, 1) := by decide +kernel
theorem dX6_add_0 : decode cX6_add 0 = .ok (.aload_n 2, 1) := by decide +kernel
theorem dX6_add_1 : decode cX6_add 1 = .ok (.getfield 89, 3) := by decide +kernel
theorem dX6_add_4 : decode cX6_add 4 = .ok (.bipush 6, 2) := by decide +kernel
theorem dX6_add_6 : decode cX6_add 6 = .ok (.if_icmp .ge 23, 3) := by decide +kernel
theorem dX6_add_9 : decode cX6_add 9 = .ok (.aload_n 1, 1) := by decide +kernel
theorem dX6_add_10 : decode cX6_add 10 = .ok (.aload_n 2, 1) := by decide +kernel
theorem dX6_add_11 : decode cX6_add 11 = .ok (.getfield 252, 3) := by decide +kernel
theorem dX6_add_14 : decode cX6_add 14 = .ok (.aload_n 2, 1) := by decide +kernel
theorem dX6_add_15 : decode cX6_add 15 = .ok (.getfield 261, 3) := by decide +kernel
theorem dX6_add_18 : decode cX6_add 18 = .ok (.i2l, 1) := by decide +kernel
theorem dX6_add_19 : decode cX6_add 19 = .ok (.invokevirtual 335, 3) := by decide +kernel
theorem dX6_add_22 : decode cX6_add 22 = .ok (.ifCond .ne 7, 3) := by decide +kernel
theorem dX6_add_25 : decode cX6_add 25 = .ok (.ldc2_w 318, 3) := by decide +kernel
theorem dX6_add_28 : decode cX6_add 28 = .ok (.lreturn, 1) := by decide +kernel
theorem dX6_add_29 : decode cX6_add 29 = .ok (.aload_n 1, 1) := by decide +kernel
theorem dX6_add_30 : decode cX6_add 30 = .ok (.aload_n 2, 1) := by decide +kernel
theorem dX6_add_31 : decode cX6_add 31 = .ok (.getfield 252, 3) := by decide +kernel
theorem dX6_add_34 : decode cX6_add 34 = .ok (.aload_n 2, 1) := by decide +kernel
theorem dX6_add_35 : decode cX6_add 35 = .ok (.getfield 261, 3) := by decide +kernel
theorem dX6_add_38 : decode cX6_add 38 = .ok (.i2l, 1) := by decide +kernel
theorem dX6_add_39 : decode cX6_add 39 = .ok (.invokevirtual 339, 3) := by decide +kernel
theorem dX6_add_42 : decode cX6_add 42 = .ok (.aload_n 2, 1) := by decide +kernel
theorem dX6_add_43 : decode cX6_add 43 = .ok (.iconst 1, 1) := by decide +kernel
theorem dX6_add_44 : decode cX6_add 44 = .ok (.putfield 213, 3) := by decide +kernel
theorem dX6_add_47 : decode cX6_add 47 = .ok (.aload_n 1, 1) := by decide +kernel
theorem dX6_add_48 : decode cX6_add 48 = .ok (.aload_n 2, 1) := by decide +kernel
theorem dX6_add_49 : decode cX6_add 49 = .ok (.getfield 252, 3) := by decide +kernel
theorem dX6_add_52 : decode cX6_add 52 = .ok (.invokevirtual 187, 3) := by decide +kernel
theorem dX6_add_55 : decode cX6_add 55 = .ok (.lreturn, 1) := by decide +kernel
theorem dX6_move_0 : decode cX6_move 0 = .ok (.aload_n 2, 1) := by decide +kernel
theorem dX6_move_1 : decode cX6_move 1 = .ok (.getfield 252, 3) := by decide +kernel
theorem dX6_move_4 : decode cX6_move 4 = .ok (.aload_n 2, 1) := by decide +kernel
theorem dX6_move_5 : decode cX6_move 5 = .ok (.getfield 255, 3) := by decide +kernel
theorem dX6_move_8 : decode cX6_move 8 = .ok (.if_icmp .eq 67, 3) := by decide +kernel
theorem dX6_move_11 : decode cX6_move 11 = .ok (.aload_n 1, 1) := by decide +kernel
theorem dX6_move_12 : decode cX6_move 12 = .ok (.aload_n 2, 1) := by decide +kernel
theorem dX6_move_13 : decode cX6_move 13 = .ok (.getfield 252, 3) := by decide +kernel
theorem dX6_move_16 : decode cX6_move 16 = .ok (.aload_n 2, 1) := by decide +kernel
theorem dX6_move_17 : decode cX6_move 17 = .ok (.getfield 261, 3) := by decide +kernel
theorem dX6_move_20 : decode cX6_move 20 = .ok (.ineg, 1) := by decide +kernel
theorem dX6_move_21 : decode cX6_move 21 = .ok (.i2l, 1) := by decide +kernel
theorem dX6_move_22 : decode cX6_move 22 = .ok (.invokevirtual 335, 3) := by decide +kernel
theorem dX6_move_25 : decode cX6_move 25 = .ok (.ifCond .eq 19, 3) := by decide +kernel
theorem dX6_move_28 : decode cX6_move 28 = .ok (.aload_n 1, 1) := by decide +kernel
theorem dX6_move_29 : decode cX6_move 29 = .ok (.aload_n 2, 1) := by decide +kernel
theorem dX6_move_30 : decode cX6_move 30 = .ok (.getfield 255, 3) := by decide +kernel
theorem dX6_move_33 : decode cX6_move 33 = .ok (.aload_n 2, 1) := by decide +kernel
theorem dX6_move_34 : decode cX6_move 34 = .ok (.getfield 261, 3) := by decide +kernel
theorem dX6_move_37 : decode cX6_move 37 = .ok (.i2l, 1) := by decide +kernel
theorem dX6_move_38 : decode cX6_move 38 = .ok (.invokevirtual 335, 3) := by decide +kernel
theorem dX6_move_41 : decode cX6_move 41 = .ok (.ifCond .ne 7, 3) := by decide +kernel
theorem dX6_move_44 : decode cX6_move 44 = .ok (.ldc2_w 318, 3) := by decide +kernel
theorem dX6_move_47 : decode cX6_move 47 = .ok (.lreturn, 1) := by decide +kernel
theorem dX6_move_48 : decode cX6_move 48 = .ok (.aload_n 1, 1) := by decide +kernel
theorem dX6_move_49 : decode cX6_move 49 = .ok (.aload_n 2, 1) := by decide +kernel
theorem dX6_move_50 : decode cX6_move 50 = .ok (.getfield 252, 3) := by decide +kernel
theorem dX6_move_53 : decode cX6_move 53 = .ok (.aload_n 2, 1) := by decide +kernel
theorem dX6_move_54 : decode cX6_move 54 = .ok (.getfield 261, 3) := by decide +kernel
theorem dX6_move_57 : decode cX6_move 57 = .ok (.ineg, 1) := by decide +kernel
theorem dX6_move_58 : decode cX6_move 58 = .ok (.i2l, 1) := by decide +kernel
theorem dX6_move_59 : decode cX6_move 59 = .ok (.invokevirtual 339, 3) := by decide +kernel
theorem dX6_move_62 : decode cX6_move 62 = .ok (.aload_n 1, 1) := by decide +kernel
theorem dX6_move_63 : decode cX6_move 63 = .ok (.aload_n 2, 1) := by decide +kernel
theorem dX6_move_64 : decode cX6_move 64 = .ok (.getfield 255, 3) := by decide +kernel
theorem dX6_move_67 : decode cX6_move 67 = .ok (.aload_n 2, 1) := by decide +kernel
theorem dX6_move_68 : decode cX6_move 68 = .ok (.getfield 261, 3) := by decide +kernel
theorem dX6_move_71 : decode cX6_move 71 = .ok (.i2l, 1) := by decide +kernel
theorem dX6_move_72 : decode cX6_move 72 = .ok (.invokevirtual 339, 3) := by decide +kernel
theorem dX6_move_75 : decode cX6_move 75 = .ok (.aload_n 2, 1) := by decide +kernel
theorem dX6_move_76 : decode cX6_move 76 = .ok (.iconst 1, 1) := by decide +kernel
theorem dX6_move_77 : decode cX6_move 77 = .ok (.putfield 213, 3) := by decide +kernel
theorem dX6_move_80 : decode cX6_move 80 = .ok (.aload_n 1, 1) := by decide +kernel
theorem dX6_move_81 : decode cX6_move 81 = .ok (.aload_n 2, 1) := by decide +kernel
theorem dX6_move_82 : decode cX6_move 82 = .ok (.getfield 252, 3) := by decide +kernel
theorem dX6_move_85 : decode cX6_move 85 = .ok (.invokevirtual 187, 3) := by decide +kernel
theorem dX6_move_88 : decode cX6_move 88 = .ok (.lreturn, 1) := by decide +kernel
theorem dX6_cancel_0 : decode cX6_cancel 0 = .ok (.aload_n 2, 1) := by decide +kernel
theorem dX6_cancel_1 : decode cX6_cancel 1 = .ok (.getfield 261, 3) := by decide +kernel
theorem dX6_cancel_4 : decode cX6_cancel 4 = .ok (.istore_n 3, 1) := by decide +kernel
theorem dX6_cancel_5 : decode cX6_cancel 5 = .ok (.aload_n 1, 1) := by decide +kernel
theorem dX6_cancel_6 : decode cX6_cancel 6 = .ok (.iload_n 3, 1) := by decide +kernel
theorem dX6_cancel_7 : decode cX6_cancel 7 = .ok (.invokevirtual 204, 3) := by decide +kernel
theorem dX6_cancel_10 : decode cX6_cancel 10 = .ok (.istore 4, 2) := by decide +kernel
theorem dX6_cancel_12 : decode cX6_cancel 12 = .ok (.iload_n 3, 1) := by decide +kernel
theorem dX6_cancel_13 : decode cX6_cancel 13 = .ok (.aload_n 2, 1) := by decide +kernel
theorem dX6_cancel_14 : decode cX6_cancel 14 = .ok (.getfield 105, 3) := by decide +kernel
theorem dX6_cancel_17 : decode cX6_cancel 17 = .ok (.if_icmp .eq 17, 3) := by decide +kernel
theorem dX6_cancel_20 : decode cX6_cancel 20 = .ok (.iload_n 3, 1) := by decide +kernel
theorem dX6_cancel_21 : decode cX6_cancel 21 = .ok (.aload_n 1, 1) := by decide +kernel
theorem dX6_cancel_22 : decode cX6_cancel 22 = .ok (.getfield 198, 3) := by decide +kernel
theorem dX6_cancel_25 : decode cX6_cancel 25 = .ok (.if_icmp .lt 9, 3) := by decide +kernel
theorem dX6_cancel_28 : decode cX6_cancel 28 = .ok (.iload 4, 2) := by decide +kernel
theorem dX6_cancel_30 : decode cX6_cancel 30 = .ok (.iconst 1, 1) := by decide +kernel
theorem dX6_cancel_31 : decode cX6_cancel 31 = .ok (.if_icmp .ne 5, 3) := by decide +kernel
theorem dX6_cancel_34 : decode cX6_cancel 34 = .ok (.lconst 0, 1) := by decide +kernel
theorem dX6_cancel_35 : decode cX6_cancel 35 = .ok (.lreturn, 1) := by decide +kernel
theorem dX6_cancel_36 : decode cX6_cancel 36 = .ok (.iload 4, 2) := by decide +kernel
theorem dX6_cancel_38 : decode cX6_cancel 38 = .ok (.iconst 2, 1) := by decide +kernel
theorem dX6_cancel_39 : decode cX6_cancel 39 = .ok (.if_icmp .ne 7, 3) := by decide +kernel
theorem dX6_cancel_42 : decode cX6_cancel 42 = .ok (.ldc2_w 343, 3) := by decide +kernel
theorem dX6_cancel_45 : decode cX6_cancel 45 = .ok (.lreturn, 1) := by decide +kernel
theorem dX6_cancel_46 : decode cX6_cancel 46 = .ok (.aload_n 1, 1) := by decide +kernel
theorem dX6_cancel_47 : decode cX6_cancel 47 = .ok (.iload_n 3, 1) := by decide +kernel
theorem dX6_cancel_48 : decode cX6_cancel 48 = .ok (.invokevirtual 345, 3) := by decide +kernel
theorem dX6_cancel_51 : decode cX6_cancel 51 = .ok (.ifCond .ne 7, 3) := by decide +kernel
theorem dX6_cancel_54 : decode cX6_cancel 54 = .ok (.ldc2_w 348, 3) := by decide +kernel
theorem dX6_cancel_57 : decode cX6_cancel 57 = .ok (.lreturn, 1) := by decide +kernel
theorem dX6_cancel_58 : decode cX6_cancel 58 = .ok (.aload_n 1, 1) := by decide +kernel
theorem dX6_cancel_59 : decode cX6_cancel 59 = .ok (.iload_n 3, 1) := by decide +kernel
theorem dX6_cancel_60 : decode cX6_cancel 60 = .ok (.iconst 3, 1) := by decide +kernel
theorem dX6_cancel_61 : decode cX6_cancel 61 = .ok (.ldc2_w 350, 3) := by decide +kernel
theorem dX6_cancel_64 : decode cX6_cancel 64 = .ok (.invokevirtual 331, 3) := by decide +kernel
theorem dX6_cancel_67 : decode cX6_cancel 67 = .ok (.lconst 1, 1) := by decide +kernel
theorem dX6_cancel_68 : decode cX6_cancel 68 = .ok (.lreturn, 1) := by decide +kernel
theorem dX6_beginFar_0 : decode cX6_beginFar 0 = .ok (.aload_n 0, 1) := by decide +kernel
theorem dX6_beginFar_1 : decode cX6_beginFar 1 = .ok (.bipush 6, 2) := by decide +kernel
theorem dX6_beginFar_3 : decode cX6_beginFar 3 = .ok (.aload_n 3, 1) := by decide +kernel
theorem dX6_beginFar_4 : decode cX6_beginFar 4 = .ok (.getfield 108, 3) := by decide +kernel
theorem dX6_beginFar_7 : decode cX6_beginFar 7 = .ok (.iadd, 1) := by decide +kernel
theorem dX6_beginFar_8 : decode cX6_beginFar 8 = .ok (.invokevirtual 64, 3) := by decide +kernel
theorem dX6_beginFar_11 : decode cX6_beginFar 11 = .ok (.astore 4, 2) := by decide +kernel
theorem dX6_beginFar_13 : decode cX6_beginFar 13 = .ok (.aload 4, 2) := by decide +kernel
theorem dX6_beginFar_15 : decode cX6_beginFar 15 = .ok (.ifnull 20, 3) := by decide +kernel
theorem dX6_beginFar_18 : decode cX6_beginFar 18 = .ok (.aload_n 1, 1) := by decide +kernel
theorem dX6_beginFar_19 : decode cX6_beginFar 19 = .ok (.aload_n 3, 1) := by decide +kernel
theorem dX6_beginFar_20 : decode cX6_beginFar 20 = .ok (.getfield 252, 3) := by decide +kernel
theorem dX6_beginFar_23 : decode cX6_beginFar 23 = .ok (.aload_n 3, 1) := by decide +kernel
theorem dX6_beginFar_24 : decode cX6_beginFar 24 = .ok (.getfield 261, 3) := by decide +kernel
theorem dX6_beginFar_27 : decode cX6_beginFar 27 = .ok (.ineg, 1) := by decide +kernel
theorem dX6_beginFar_28 : decode cX6_beginFar 28 = .ok (.i2l, 1) := by decide +kernel
theorem dX6_beginFar_29 : decode cX6_beginFar 29 = .ok (.invokevirtual 335, 3) := by decide +kernel
theorem dX6_beginFar_32 : decode cX6_beginFar 32 = .ok (.ifCond .ne 5, 3) := by decide +kernel
theorem dX6_beginFar_35 : decode cX6_beginFar 35 = .ok (.aconst_null, 1) := by decide +kernel
theorem dX6_beginFar_36 : decode cX6_beginFar 36 = .ok (.areturn, 1) := by decide +kernel
theorem dX6_beginFar_37 : decode cX6_beginFar 37 = .ok (.aload_n 0, 1) := by decide +kernel
theorem dX6_beginFar_38 : decode cX6_beginFar 38 = .ok (.aload 4, 2) := by decide +kernel
theorem dX6_beginFar_40 : decode cX6_beginFar 40 = .ok (.aload_n 3, 1) := by decide +kernel
theorem dX6_beginFar_41 : decode cX6_beginFar 41 = .ok (.getfield 258, 3) := by decide +kernel
theorem dX6_beginFar_44 : decode cX6_beginFar 44 = .ok (.iconst 1, 1) := by decide +kernel
theorem dX6_beginFar_45 : decode cX6_beginFar 45 = .ok (.aload_n 3, 1) := by decide +kernel
theorem dX6_beginFar_46 : decode cX6_beginFar 46 = .ok (.getfield 255, 3) := by decide +kernel
theorem dX6_beginFar_49 : decode cX6_beginFar 49 = .ok (.aload_n 3, 1) := by decide +kernel
theorem dX6_beginFar_50 : decode cX6_beginFar 50 = .ok (.getfield 255, 3) := by decide +kernel
theorem dX6_beginFar_53 : decode cX6_beginFar 53 = .ok (.aload_n 3, 1) := by decide +kernel
theorem dX6_beginFar_54 : decode cX6_beginFar 54 = .ok (.getfield 258, 3) := by decide +kernel
theorem dX6_beginFar_57 : decode cX6_beginFar 57 = .ok (.aload_n 3, 1) := by decide +kernel
theorem dX6_beginFar_58 : decode cX6_beginFar 58 = .ok (.getfield 261, 3) := by decide +kernel
theorem dX6_beginFar_61 : decode cX6_beginFar 61 = .ok (.invokevirtual 73, 3) := by decide +kernel
theorem dX6_beginFar_64 : decode cX6_beginFar 64 = .ok (.astore 5, 2) := by decide +kernel
theorem dX6_beginFar_66 : decode cX6_beginFar 66 = .ok (.aload 5, 2) := by decide +kernel
theorem dX6_beginFar_68 : decode cX6_beginFar 68 = .ok (.ifnonnull 5, 3) := by decide +kernel
theorem dX6_beginFar_71 : decode cX6_beginFar 71 = .ok (.aconst_null, 1) := by decide +kernel
theorem dX6_beginFar_72 : decode cX6_beginFar 72 = .ok (.areturn, 1) := by decide +kernel
theorem dX6_beginFar_73 : decode cX6_beginFar 73 = .ok (.aload_n 1, 1) := by decide +kernel
theorem dX6_beginFar_74 : decode cX6_beginFar 74 = .ok (.aload_n 3, 1) := by decide +kernel
theorem dX6_beginFar_75 : decode cX6_beginFar 75 = .ok (.getfield 252, 3) := by decide +kernel
theorem dX6_beginFar_78 : decode cX6_beginFar 78 = .ok (.aload_n 3, 1) := by decide +kernel
theorem dX6_beginFar_79 : decode cX6_beginFar 79 = .ok (.getfield 261, 3) := by decide +kernel
theorem dX6_beginFar_82 : decode cX6_beginFar 82 = .ok (.ineg, 1) := by decide +kernel
theorem dX6_beginFar_83 : decode cX6_beginFar 83 = .ok (.i2l, 1) := by decide +kernel
theorem dX6_beginFar_84 : decode cX6_beginFar 84 = .ok (.invokevirtual 339, 3) := by decide +kernel
theorem dX6_beginFar_87 : decode cX6_beginFar 87 = .ok (.aload_n 2, 1) := by decide +kernel
theorem dX6_beginFar_88 : decode cX6_beginFar 88 = .ok (.aload_n 3, 1) := by decide +kernel
theorem dX6_beginFar_89 : decode cX6_beginFar 89 = .ok (.getfield 105, 3) := by decide +kernel
theorem dX6_beginFar_92 : decode cX6_beginFar 92 = .ok (.iconst 2, 1) := by decide +kernel
theorem dX6_beginFar_93 : decode cX6_beginFar 93 = .ok (.lconst 0, 1) := by decide +kernel
theorem dX6_beginFar_94 : decode cX6_beginFar 94 = .ok (.invokevirtual 331, 3) := by decide +kernel
theorem dX6_beginFar_97 : decode cX6_beginFar 97 = .ok (.aload 5, 2) := by decide +kernel
theorem dX6_beginFar_99 : decode cX6_beginFar 99 = .ok (.aload_n 3, 1) := by decide +kernel
theorem dX6_beginFar_100 : decode cX6_beginFar 100 = .ok (.putfield 114, 3) := by decide +kernel
theorem dX6_beginFar_103 : decode cX6_beginFar 103 = .ok (.aload_n 3, 1) := by decide +kernel
theorem dX6_beginFar_104 : decode cX6_beginFar 104 = .ok (.aload 5, 2) := by decide +kernel
theorem dX6_beginFar_106 : decode cX6_beginFar 106 = .ok (.putfield 122, 3) := by decide +kernel
theorem dX6_beginFar_109 : decode cX6_beginFar 109 = .ok (.aload_n 3, 1) := by decide +kernel
theorem dX6_beginFar_110 : decode cX6_beginFar 110 = .ok (.iconst 1, 1) := by decide +kernel
theorem dX6_beginFar_111 : decode cX6_beginFar 111 = .ok (.putfield 213, 3) := by decide +kernel
theorem dX6_beginFar_114 : decode cX6_beginFar 114 = .ok (.aload 5, 2) := by decide +kernel
theorem dX6_beginFar_116 : decode cX6_beginFar 116 = .ok (.areturn, 1) := by decide +kernel
theorem dX6_finishFar_0 : decode cX6_finishFar 0 = .ok (.iload_n 3, 1) := by decide +kernel
theorem dX6_finishFar_1 : decode cX6_finishFar 1 = .ok (.iconst 1, 1) := by decide +kernel
theorem dX6_finishFar_2 : decode cX6_finishFar 2 = .ok (.if_icmp .eq 10, 3) := by decide +kernel
theorem dX6_finishFar_5 : decode cX6_finishFar 5 = .ok (.aload_n 2, 1) := by decide +kernel
theorem dX6_finishFar_6 : decode cX6_finishFar 6 = .ok (.getfield 92, 3) := by decide +kernel
theorem dX6_finishFar_9 : decode cX6_finishFar 9 = .ok (.ifCond .eq 5, 3) := by decide +kernel
theorem dX6_finishFar_12 : decode cX6_finishFar 12 = .ok (.iconst 0, 1) := by decide +kernel
theorem dX6_finishFar_13 : decode cX6_finishFar 13 = .ok (.ireturn, 1) := by decide +kernel
theorem dX6_finishFar_14 : decode cX6_finishFar 14 = .ok (.aload_n 2, 1) := by decide +kernel
theorem dX6_finishFar_15 : decode cX6_finishFar 15 = .ok (.aload_n 1, 1) := by decide +kernel
theorem dX6_finishFar_16 : decode cX6_finishFar 16 = .ok (.getfield 289, 3) := by decide +kernel
theorem dX6_finishFar_19 : decode cX6_finishFar 19 = .ok (.invokevirtual 290, 3) := by decide +kernel
theorem dX6_finishFar_22 : decode cX6_finishFar 22 = .ok (.aload_n 2, 1) := by decide +kernel
theorem dX6_finishFar_23 : decode cX6_finishFar 23 = .ok (.getfield 114, 3) := by decide +kernel
theorem dX6_finishFar_26 : decode cX6_finishFar 26 = .ok (.astore 4, 2) := by decide +kernel
theorem dX6_finishFar_28 : decode cX6_finishFar 28 = .ok (.aload 4, 2) := by decide +kernel
theorem dX6_finishFar_30 : decode cX6_finishFar 30 = .ok (.ifnonnull 5, 3) := by decide +kernel
theorem dX6_finishFar_33 : decode cX6_finishFar 33 = .ok (.iconst 0, 1) := by decide +kernel
theorem dX6_finishFar_34 : decode cX6_finishFar 34 = .ok (.ireturn, 1) := by decide +kernel
theorem dX6_finishFar_35 : decode cX6_finishFar 35 = .ok (.aload_n 0, 1) := by decide +kernel
theorem dX6_finishFar_36 : decode cX6_finishFar 36 = .ok (.aload 4, 2) := by decide +kernel
theorem dX6_finishFar_38 : decode cX6_finishFar 38 = .ok (.getfield 108, 3) := by decide +kernel
theorem dX6_finishFar_41 : decode cX6_finishFar 41 = .ok (.invokevirtual 51, 3) := by decide +kernel
theorem dX6_finishFar_44 : decode cX6_finishFar 44 = .ok (.astore 5, 2) := by decide +kernel
theorem dX6_finishFar_46 : decode cX6_finishFar 46 = .ok (.aload_n 0, 1) := by decide +kernel
theorem dX6_finishFar_47 : decode cX6_finishFar 47 = .ok (.aload 4, 2) := by decide +kernel
theorem dX6_finishFar_49 : decode cX6_finishFar 49 = .ok (.getfield 108, 3) := by decide +kernel
theorem dX6_finishFar_52 : decode cX6_finishFar 52 = .ok (.aload 4, 2) := by decide +kernel
theorem dX6_finishFar_54 : decode cX6_finishFar 54 = .ok (.getfield 89, 3) := by decide +kernel
theorem dX6_finishFar_57 : decode cX6_finishFar 57 = .ok (.invokevirtual 191, 3) := by decide +kernel
theorem dX6_finishFar_60 : decode cX6_finishFar 60 = .ok (.astore 6, 2) := by decide +kernel
theorem dX6_finishFar_62 : decode cX6_finishFar 62 = .ok (.aload 5, 2) := by decide +kernel
theorem dX6_finishFar_64 : decode cX6_finishFar 64 = .ok (.ifnull 8, 3) := by decide +kernel
theorem dX6_finishFar_67 : decode cX6_finishFar 67 = .ok (.aload 6, 2) := by decide +kernel
theorem dX6_finishFar_69 : decode cX6_finishFar 69 = .ok (.ifnonnull 5, 3) := by decide +kernel
theorem dX6_finishFar_72 : decode cX6_finishFar 72 = .ok (.iconst 0, 1) := by decide +kernel
theorem dX6_finishFar_73 : decode cX6_finishFar 73 = .ok (.ireturn, 1) := by decide +kernel
theorem dX6_finishFar_74 : decode cX6_finishFar 74 = .ok (.aload 6, 2) := by decide +kernel
theorem dX6_finishFar_76 : decode cX6_finishFar 76 = .ok (.getfield 195, 3) := by decide +kernel
theorem dX6_finishFar_79 : decode cX6_finishFar 79 = .ok (.aload 4, 2) := by decide +kernel
theorem dX6_finishFar_81 : decode cX6_finishFar 81 = .ok (.getfield 102, 3) := by decide +kernel
theorem dX6_finishFar_84 : decode cX6_finishFar 84 = .ok (.if_icmp .ne 17, 3) := by decide +kernel
theorem dX6_finishFar_87 : decode cX6_finishFar 87 = .ok (.aload 6, 2) := by decide +kernel
theorem dX6_finishFar_89 : decode cX6_finishFar 89 = .ok (.aload 4, 2) := by decide +kernel
theorem dX6_finishFar_91 : decode cX6_finishFar 91 = .ok (.getfield 105, 3) := by decide +kernel
theorem dX6_finishFar_94 : decode cX6_finishFar 94 = .ok (.invokevirtual 204, 3) := by decide +kernel
theorem dX6_finishFar_97 : decode cX6_finishFar 97 = .ok (.iconst 2, 1) := by decide +kernel
theorem dX6_finishFar_98 : decode cX6_finishFar 98 = .ok (.if_icmp .eq 5, 3) := by decide +kernel
theorem dX6_finishFar_101 : decode cX6_finishFar 101 = .ok (.iconst 0, 1) := by decide +kernel
theorem dX6_finishFar_102 : decode cX6_finishFar 102 = .ok (.ireturn, 1) := by decide +kernel
theorem dX6_finishFar_103 : decode cX6_finishFar 103 = .ok (.aload 5, 2) := by decide +kernel
theorem dX6_finishFar_105 : decode cX6_finishFar 105 = .ok (.aload 4, 2) := by decide +kernel
theorem dX6_finishFar_107 : decode cX6_finishFar 107 = .ok (.getfield 252, 3) := by decide +kernel
theorem dX6_finishFar_110 : decode cX6_finishFar 110 = .ok (.invokevirtual 187, 3) := by decide +kernel
theorem dX6_finishFar_113 : decode cX6_finishFar 113 = .ok (.lstore 7, 2) := by decide +kernel
theorem dX6_finishFar_115 : decode cX6_finishFar 115 = .ok (.aload 6, 2) := by decide +kernel
theorem dX6_finishFar_117 : decode cX6_finishFar 117 = .ok (.aload 4, 2) := by decide +kernel
theorem dX6_finishFar_119 : decode cX6_finishFar 119 = .ok (.getfield 105, 3) := by decide +kernel
theorem dX6_finishFar_122 : decode cX6_finishFar 122 = .ok (.iconst 1, 1) := by decide +kernel
theorem dX6_finishFar_123 : decode cX6_finishFar 123 = .ok (.lload 7, 2) := by decide +kernel
theorem dX6_finishFar_125 : decode cX6_finishFar 125 = .ok (.invokevirtual 331, 3) := by decide +kernel
theorem dX6_finishFar_128 : decode cX6_finishFar 128 = .ok (.aload_n 0, 1) := by decide +kernel
theorem dX6_finishFar_129 : decode cX6_finishFar 129 = .ok (.aload 4, 2) := by decide +kernel
theorem dX6_finishFar_131 : decode cX6_finishFar 131 = .ok (.lload 7, 2) := by decide +kernel
theorem dX6_finishFar_133 : decode cX6_finishFar 133 = .ok (.iload_n 3, 1) := by decide +kernel
theorem dX6_finishFar_134 : decode cX6_finishFar 134 = .ok (.iconst 3, 1) := by decide +kernel
theorem dX6_finishFar_135 : decode cX6_finishFar 135 = .ok (.if_icmp .ne 7, 3) := by decide +kernel
theorem dX6_finishFar_138 : decode cX6_finishFar 138 = .ok (.iconst 1, 1) := by decide +kernel
theorem dX6_finishFar_139 : decode cX6_finishFar 139 = .ok (.goto 4, 3) := by decide +kernel
theorem dX6_finishFar_142 : decode cX6_finishFar 142 = .ok (.iconst 0, 1) := by decide +kernel
theorem dX6_finishFar_143 : decode cX6_finishFar 143 = .ok (.invokevirtual 310, 3) := by decide +kernel
theorem dX6_finishFar_146 : decode cX6_finishFar 146 = .ok (.ireturn, 1) := by decide +kernel
theorem dX6_bringDown_0 : decode cX6_bringDown 0 = .ok (.aload_n 1, 1) := by decide +kernel
theorem dX6_bringDown_1 : decode cX6_bringDown 1 = .ok (.iconst 0, 1) := by decide +kernel
theorem dX6_bringDown_2 : decode cX6_bringDown 2 = .ok (.putfield 68, 3) := by decide +kernel
theorem dX6_bringDown_5 : decode cX6_bringDown 5 = .ok (.aload_n 0, 1) := by decide +kernel
theorem dX6_bringDown_6 : decode cX6_bringDown 6 = .ok (.dup, 1) := by decide +kernel
theorem dX6_bringDown_7 : decode cX6_bringDown 7 = .ok (.getfield 238, 3) := by decide +kernel
theorem dX6_bringDown_10 : decode cX6_bringDown 10 = .ok (.iconst 1, 1) := by decide +kernel
theorem dX6_bringDown_11 : decode cX6_bringDown 11 = .ok (.iadd, 1) := by decide +kernel
theorem dX6_bringDown_12 : decode cX6_bringDown 12 = .ok (.putfield 238, 3) := by decide +kernel
theorem dX6_bringDown_15 : decode cX6_bringDown 15 = .ok (.return_, 1) := by decide +kernel
theorem dX6_sumOfAccounts_0 : decode cX6_sumOfAccounts 0 = .ok (.lconst 0, 1) := by decide +kernel
theorem dX6_sumOfAccounts_1 : decode cX6_sumOfAccounts 1 = .ok (.lstore_n 1, 1) := by decide +kernel
theorem dX6_sumOfAccounts_2 : decode cX6_sumOfAccounts 2 = .ok (.iconst 0, 1) := by decide +kernel
theorem dX6_sumOfAccounts_3 : decode cX6_sumOfAccounts 3 = .ok (.istore_n 3, 1) := by decide +kernel
theorem dX6_sumOfAccounts_4 : decode cX6_sumOfAccounts 4 = .ok (.iload_n 3, 1) := by decide +kernel
theorem dX6_sumOfAccounts_5 : decode cX6_sumOfAccounts 5 = .ok (.iconst 4, 1) := by decide +kernel
theorem dX6_sumOfAccounts_6 : decode cX6_sumOfAccounts 6 = .ok (.if_icmp .ge 35, 3) := by decide +kernel
theorem dX6_sumOfAccounts_9 : decode cX6_sumOfAccounts 9 = .ok (.iconst 0, 1) := by decide +kernel
theorem dX6_sumOfAccounts_10 : decode cX6_sumOfAccounts 10 = .ok (.istore 4, 2) := by decide +kernel
theorem dX6_sumOfAccounts_12 : decode cX6_sumOfAccounts 12 = .ok (.iload 4, 2) := by decide +kernel
theorem dX6_sumOfAccounts_14 : decode cX6_sumOfAccounts 14 = .ok (.bipush 6, 2) := by decide +kernel
theorem dX6_sumOfAccounts_16 : decode cX6_sumOfAccounts 16 = .ok (.if_icmp .ge 19, 3) := by decide +kernel
theorem dX6_sumOfAccounts_19 : decode cX6_sumOfAccounts 19 = .ok (.lload_n 1, 1) := by decide +kernel
theorem dX6_sumOfAccounts_20 : decode cX6_sumOfAccounts 20 = .ok (.aload_n 0, 1) := by decide +kernel
theorem dX6_sumOfAccounts_21 : decode cX6_sumOfAccounts 21 = .ok (.iload_n 3, 1) := by decide +kernel
theorem dX6_sumOfAccounts_22 : decode cX6_sumOfAccounts 22 = .ok (.iload 4, 2) := by decide +kernel
theorem dX6_sumOfAccounts_24 : decode cX6_sumOfAccounts 24 = .ok (.invokevirtual 352, 3) := by decide +kernel
theorem dX6_sumOfAccounts_27 : decode cX6_sumOfAccounts 27 = .ok (.ladd, 1) := by decide +kernel
theorem dX6_sumOfAccounts_28 : decode cX6_sumOfAccounts 28 = .ok (.lstore_n 1, 1) := by decide +kernel
theorem dX6_sumOfAccounts_29 : decode cX6_sumOfAccounts 29 = .ok (.iinc 4 1, 3) := by decide +kernel
theorem dX6_sumOfAccounts_32 : decode cX6_sumOfAccounts 32 = .ok (.goto (-20), 3) := by decide +kernel
theorem dX6_sumOfAccounts_35 : decode cX6_sumOfAccounts 35 = .ok (.iinc 3 1, 3) := by decide +kernel
theorem dX6_sumOfAccounts_38 : decode cX6_sumOfAccounts 38 = .ok (.goto (-34), 3) := by decide +kernel
theorem dX6_sumOfAccounts_41 : decode cX6_sumOfAccounts 41 = .ok (.lload_n 1, 1) := by decide +kernel
theorem dX6_sumOfAccounts_42 : decode cX6_sumOfAccounts 42 = .ok (.lreturn, 1) := by decide +kernel
theorem dX6_sumUnderWay_0 : decode cX6_sumUnderWay 0 = .ok (.lconst 0, 1) := by decide +kernel
theorem dX6_sumUnderWay_1 : decode cX6_sumUnderWay 1 = .ok (.lstore_n 1, 1) := by decide +kernel
theorem dX6_sumUnderWay_2 : decode cX6_sumUnderWay 2 = .ok (.iconst 0, 1) := by decide +kernel
theorem dX6_sumUnderWay_3 : decode cX6_sumUnderWay 3 = .ok (.istore_n 3, 1) := by decide +kernel
theorem dX6_sumUnderWay_4 : decode cX6_sumUnderWay 4 = .ok (.iload_n 3, 1) := by decide +kernel
theorem dX6_sumUnderWay_5 : decode cX6_sumUnderWay 5 = .ok (.aload_n 0, 1) := by decide +kernel
theorem dX6_sumUnderWay_6 : decode cX6_sumUnderWay 6 = .ok (.getfield 229, 3) := by decide +kernel
theorem dX6_sumUnderWay_9 : decode cX6_sumUnderWay 9 = .ok (.if_icmp .ge 46, 3) := by decide +kernel
theorem dX6_sumUnderWay_12 : decode cX6_sumUnderWay 12 = .ok (.aload_n 0, 1) := by decide +kernel
theorem dX6_sumUnderWay_13 : decode cX6_sumUnderWay 13 = .ok (.iload_n 3, 1) := by decide +kernel
theorem dX6_sumUnderWay_14 : decode cX6_sumUnderWay 14 = .ok (.invokevirtual 85, 3) := by decide +kernel
theorem dX6_sumUnderWay_17 : decode cX6_sumUnderWay 17 = .ok (.astore 4, 2) := by decide +kernel
theorem dX6_sumUnderWay_19 : decode cX6_sumUnderWay 19 = .ok (.aload 4, 2) := by decide +kernel
theorem dX6_sumUnderWay_21 : decode cX6_sumUnderWay 21 = .ok (.ifnull 28, 3) := by decide +kernel
theorem dX6_sumUnderWay_24 : decode cX6_sumUnderWay 24 = .ok (.aload 4, 2) := by decide +kernel
theorem dX6_sumUnderWay_26 : decode cX6_sumUnderWay 26 = .ok (.getfield 114, 3) := by decide +kernel
theorem dX6_sumUnderWay_29 : decode cX6_sumUnderWay 29 = .ok (.ifnull 20, 3) := by decide +kernel
theorem dX6_sumUnderWay_32 : decode cX6_sumUnderWay 32 = .ok (.aload 4, 2) := by decide +kernel
theorem dX6_sumUnderWay_34 : decode cX6_sumUnderWay 34 = .ok (.getfield 213, 3) := by decide +kernel
theorem dX6_sumUnderWay_37 : decode cX6_sumUnderWay 37 = .ok (.ifCond .ne 12, 3) := by decide +kernel
theorem dX6_sumUnderWay_40 : decode cX6_sumUnderWay 40 = .ok (.lload_n 1, 1) := by decide +kernel
theorem dX6_sumUnderWay_41 : decode cX6_sumUnderWay 41 = .ok (.aload 4, 2) := by decide +kernel
theorem dX6_sumUnderWay_43 : decode cX6_sumUnderWay 43 = .ok (.getfield 261, 3) := by decide +kernel
theorem dX6_sumUnderWay_46 : decode cX6_sumUnderWay 46 = .ok (.i2l, 1) := by decide +kernel
theorem dX6_sumUnderWay_47 : decode cX6_sumUnderWay 47 = .ok (.ladd, 1) := by decide +kernel
theorem dX6_sumUnderWay_48 : decode cX6_sumUnderWay 48 = .ok (.lstore_n 1, 1) := by decide +kernel
theorem dX6_sumUnderWay_49 : decode cX6_sumUnderWay 49 = .ok (.iinc 3 1, 3) := by decide +kernel
theorem dX6_sumUnderWay_52 : decode cX6_sumUnderWay 52 = .ok (.goto (-48), 3) := by decide +kernel
theorem dX6_sumUnderWay_55 : decode cX6_sumUnderWay 55 = .ok (.lload_n 1, 1) := by decide +kernel
theorem dX6_sumUnderWay_56 : decode cX6_sumUnderWay 56 = .ok (.lreturn, 1) := by decide +kernel
theorem dX6_sumOfAdds_0 : decode cX6_sumOfAdds 0 = .ok (.lconst 0, 1) := by decide +kernel
theorem dX6_sumOfAdds_1 : decode cX6_sumOfAdds 1 = .ok (.lstore_n 1, 1) := by decide +kernel
theorem dX6_sumOfAdds_2 : decode cX6_sumOfAdds 2 = .ok (.iconst 0, 1) := by decide +kernel
theorem dX6_sumOfAdds_3 : decode cX6_sumOfAdds 3 = .ok (.istore_n 3, 1) := by decide +kernel
theorem dX6_sumOfAdds_4 : decode cX6_sumOfAdds 4 = .ok (.iload_n 3, 1) := by decide +kernel
theorem dX6_sumOfAdds_5 : decode cX6_sumOfAdds 5 = .ok (.aload_n 0, 1) := by decide +kernel
theorem dX6_sumOfAdds_6 : decode cX6_sumOfAdds 6 = .ok (.getfield 229, 3) := by decide +kernel
theorem dX6_sumOfAdds_9 : decode cX6_sumOfAdds 9 = .ok (.if_icmp .ge 57, 3) := by decide +kernel
theorem dX6_sumOfAdds_12 : decode cX6_sumOfAdds 12 = .ok (.aload_n 0, 1) := by decide +kernel
theorem dX6_sumOfAdds_13 : decode cX6_sumOfAdds 13 = .ok (.iload_n 3, 1) := by decide +kernel
theorem dX6_sumOfAdds_14 : decode cX6_sumOfAdds 14 = .ok (.invokevirtual 85, 3) := by decide +kernel
theorem dX6_sumOfAdds_17 : decode cX6_sumOfAdds 17 = .ok (.astore 4, 2) := by decide +kernel
theorem dX6_sumOfAdds_19 : decode cX6_sumOfAdds 19 = .ok (.aload 4, 2) := by decide +kernel
theorem dX6_sumOfAdds_21 : decode cX6_sumOfAdds 21 = .ok (.ifnull 39, 3) := by decide +kernel
theorem dX6_sumOfAdds_24 : decode cX6_sumOfAdds 24 = .ok (.aload 4, 2) := by decide +kernel
theorem dX6_sumOfAdds_26 : decode cX6_sumOfAdds 26 = .ok (.getfield 111, 3) := by decide +kernel
theorem dX6_sumOfAdds_29 : decode cX6_sumOfAdds 29 = .ok (.iconst 1, 1) := by decide +kernel
theorem dX6_sumOfAdds_30 : decode cX6_sumOfAdds 30 = .ok (.if_icmp .ne 30, 3) := by decide +kernel
theorem dX6_sumOfAdds_33 : decode cX6_sumOfAdds 33 = .ok (.aload 4, 2) := by decide +kernel
theorem dX6_sumOfAdds_35 : decode cX6_sumOfAdds 35 = .ok (.getfield 89, 3) := by decide +kernel
theorem dX6_sumOfAdds_38 : decode cX6_sumOfAdds 38 = .ok (.bipush 6, 2) := by decide +kernel
theorem dX6_sumOfAdds_40 : decode cX6_sumOfAdds 40 = .ok (.if_icmp .ge 20, 3) := by decide +kernel
theorem dX6_sumOfAdds_43 : decode cX6_sumOfAdds 43 = .ok (.aload 4, 2) := by decide +kernel
theorem dX6_sumOfAdds_45 : decode cX6_sumOfAdds 45 = .ok (.getfield 213, 3) := by decide +kernel
theorem dX6_sumOfAdds_48 : decode cX6_sumOfAdds 48 = .ok (.ifCond .eq 12, 3) := by decide +kernel
theorem dX6_sumOfAdds_51 : decode cX6_sumOfAdds 51 = .ok (.lload_n 1, 1) := by decide +kernel
theorem dX6_sumOfAdds_52 : decode cX6_sumOfAdds 52 = .ok (.aload 4, 2) := by decide +kernel
theorem dX6_sumOfAdds_54 : decode cX6_sumOfAdds 54 = .ok (.getfield 261, 3) := by decide +kernel
theorem dX6_sumOfAdds_57 : decode cX6_sumOfAdds 57 = .ok (.i2l, 1) := by decide +kernel
theorem dX6_sumOfAdds_58 : decode cX6_sumOfAdds 58 = .ok (.ladd, 1) := by decide +kernel
theorem dX6_sumOfAdds_59 : decode cX6_sumOfAdds 59 = .ok (.lstore_n 1, 1) := by decide +kernel
theorem dX6_sumOfAdds_60 : decode cX6_sumOfAdds 60 = .ok (.iinc 3 1, 3) := by decide +kernel
theorem dX6_sumOfAdds_63 : decode cX6_sumOfAdds 63 = .ok (.goto (-59), 3) := by decide +kernel
theorem dX6_sumOfAdds_66 : decode cX6_sumOfAdds 66 = .ok (.lload_n 1, 1) := by decide +kernel
theorem dX6_sumOfAdds_67 : decode cX6_sumOfAdds 67 = .ok (.lreturn, 1) := by decide +kernel
theorem dX6_openAsks_0 : decode cX6_openAsks 0 = .ok (.iconst 0, 1) := by decide +kernel
theorem dX6_openAsks_1 : decode cX6_openAsks 1 = .ok (.istore_n 1, 1) := by decide +kernel
theorem dX6_openAsks_2 : decode cX6_openAsks 2 = .ok (.iconst 0, 1) := by decide +kernel
theorem dX6_openAsks_3 : decode cX6_openAsks 3 = .ok (.istore_n 2, 1) := by decide +kernel
theorem dX6_openAsks_4 : decode cX6_openAsks 4 = .ok (.iload_n 2, 1) := by decide +kernel
theorem dX6_openAsks_5 : decode cX6_openAsks 5 = .ok (.aload_n 0, 1) := by decide +kernel
theorem dX6_openAsks_6 : decode cX6_openAsks 6 = .ok (.getfield 229, 3) := by decide +kernel
theorem dX6_openAsks_9 : decode cX6_openAsks 9 = .ok (.if_icmp .ge 29, 3) := by decide +kernel
theorem dX6_openAsks_12 : decode cX6_openAsks 12 = .ok (.aload_n 0, 1) := by decide +kernel
theorem dX6_openAsks_13 : decode cX6_openAsks 13 = .ok (.iload_n 2, 1) := by decide +kernel
theorem dX6_openAsks_14 : decode cX6_openAsks 14 = .ok (.invokevirtual 85, 3) := by decide +kernel
theorem dX6_openAsks_17 : decode cX6_openAsks 17 = .ok (.astore_n 3, 1) := by decide +kernel
theorem dX6_openAsks_18 : decode cX6_openAsks 18 = .ok (.aload_n 3, 1) := by decide +kernel
theorem dX6_openAsks_19 : decode cX6_openAsks 19 = .ok (.ifnull 13, 3) := by decide +kernel
theorem dX6_openAsks_22 : decode cX6_openAsks 22 = .ok (.aload_n 3, 1) := by decide +kernel
theorem dX6_openAsks_23 : decode cX6_openAsks 23 = .ok (.getfield 92, 3) := by decide +kernel
theorem dX6_openAsks_26 : decode cX6_openAsks 26 = .ok (.ifCond .ne 6, 3) := by decide +kernel
theorem dX6_openAsks_29 : decode cX6_openAsks 29 = .ok (.iinc 1 1, 3) := by decide +kernel
theorem dX6_openAsks_32 : decode cX6_openAsks 32 = .ok (.iinc 2 1, 3) := by decide +kernel
theorem dX6_openAsks_35 : decode cX6_openAsks 35 = .ok (.goto (-31), 3) := by decide +kernel
theorem dX6_openAsks_38 : decode cX6_openAsks 38 = .ok (.iload_n 1, 1) := by decide +kernel
theorem dX6_openAsks_39 : decode cX6_openAsks 39 = .ok (.ireturn, 1) := by decide +kernel
theorem dX6_allRecords_0 : decode cX6_allRecords 0 = .ok (.iconst 0, 1) := by decide +kernel
theorem dX6_allRecords_1 : decode cX6_allRecords 1 = .ok (.istore_n 1, 1) := by decide +kernel
theorem dX6_allRecords_2 : decode cX6_allRecords 2 = .ok (.iconst 0, 1) := by decide +kernel
theorem dX6_allRecords_3 : decode cX6_allRecords 3 = .ok (.istore_n 2, 1) := by decide +kernel
theorem dX6_allRecords_4 : decode cX6_allRecords 4 = .ok (.iload_n 2, 1) := by decide +kernel
theorem dX6_allRecords_5 : decode cX6_allRecords 5 = .ok (.iconst 4, 1) := by decide +kernel
theorem dX6_allRecords_6 : decode cX6_allRecords 6 = .ok (.if_icmp .ge 33, 3) := by decide +kernel
theorem dX6_allRecords_9 : decode cX6_allRecords 9 = .ok (.iconst 0, 1) := by decide +kernel
theorem dX6_allRecords_10 : decode cX6_allRecords 10 = .ok (.istore_n 3, 1) := by decide +kernel
theorem dX6_allRecords_11 : decode cX6_allRecords 11 = .ok (.iload_n 3, 1) := by decide +kernel
theorem dX6_allRecords_12 : decode cX6_allRecords 12 = .ok (.bipush 10, 2) := by decide +kernel
theorem dX6_allRecords_14 : decode cX6_allRecords 14 = .ok (.if_icmp .ge 19, 3) := by decide +kernel
theorem dX6_allRecords_17 : decode cX6_allRecords 17 = .ok (.iload_n 1, 1) := by decide +kernel
theorem dX6_allRecords_18 : decode cX6_allRecords 18 = .ok (.aload_n 0, 1) := by decide +kernel
theorem dX6_allRecords_19 : decode cX6_allRecords 19 = .ok (.iload_n 2, 1) := by decide +kernel
theorem dX6_allRecords_20 : decode cX6_allRecords 20 = .ok (.iload_n 3, 1) := by decide +kernel
theorem dX6_allRecords_21 : decode cX6_allRecords 21 = .ok (.iconst 2, 1) := by decide +kernel
theorem dX6_allRecords_22 : decode cX6_allRecords 22 = .ok (.invokevirtual 356, 3) := by decide +kernel
theorem dX6_allRecords_25 : decode cX6_allRecords 25 = .ok (.iadd, 1) := by decide +kernel
theorem dX6_allRecords_26 : decode cX6_allRecords 26 = .ok (.istore_n 1, 1) := by decide +kernel
theorem dX6_allRecords_27 : decode cX6_allRecords 27 = .ok (.iinc 3 1, 3) := by decide +kernel
theorem dX6_allRecords_30 : decode cX6_allRecords 30 = .ok (.goto (-19), 3) := by decide +kernel
theorem dX6_allRecords_33 : decode cX6_allRecords 33 = .ok (.iinc 2 1, 3) := by decide +kernel
theorem dX6_allRecords_36 : decode cX6_allRecords 36 = .ok (.goto (-32), 3) := by decide +kernel
theorem dX6_allRecords_39 : decode cX6_allRecords 39 = .ok (.iload_n 1, 1) := by decide +kernel
theorem dX6_allRecords_40 : decode cX6_allRecords 40 = .ok (.ireturn, 1) := by decide +kernel
theorem dJ9_max_7cf53_0 : decode cJ9_max_7cf53 0 = .ok (.iload_n 0, 1) := by decide +kernel
theorem dJ9_max_7cf53_1 : decode cJ9_max_7cf53 1 = .ok (.iload_n 1, 1) := by decide +kernel
theorem dJ9_max_7cf53_2 : decode cJ9_max_7cf53 2 = .ok (.if_icmp .lt 7, 3) := by decide +kernel
theorem dJ9_max_7cf53_5 : decode cJ9_max_7cf53 5 = .ok (.iload_n 0, 1) := by decide +kernel
theorem dJ9_max_7cf53_6 : decode cJ9_max_7cf53 6 = .ok (.goto 4, 3) := by decide +kernel
theorem dJ9_max_7cf53_9 : decode cJ9_max_7cf53 9 = .ok (.iload_n 1, 1) := by decide +kernel
theorem dJ9_max_7cf53_10 : decode cJ9_max_7cf53 10 = .ok (.ireturn, 1) := by decide +kernel
theorem dJ9_min_7cf53_0 : decode cJ9_min_7cf53 0 = .ok (.iload_n 0, 1) := by decide +kernel
theorem dJ9_min_7cf53_1 : decode cJ9_min_7cf53 1 = .ok (.iload_n 1, 1) := by decide +kernel
theorem dJ9_min_7cf53_2 : decode cJ9_min_7cf53 2 = .ok (.if_icmp .gt 7, 3) := by decide +kernel
theorem dJ9_min_7cf53_5 : decode cJ9_min_7cf53 5 = .ok (.iload_n 0, 1) := by decide +kernel
theorem dJ9_min_7cf53_6 : decode cJ9_min_7cf53 6 = .ok (.goto 4, 3) := by decide +kernel
theorem dJ9_min_7cf53_9 : decode cJ9_min_7cf53 9 = .ok (.iload_n 1, 1) := by decide +kernel
theorem dJ9_min_7cf53_10 : decode cJ9_min_7cf53 10 = .ok (.ireturn, 1) := by decide +kernel
end
section
theorem dX7_init_0 : decode cX7_init 0 = .ok (.aload_n 0, 1) := by decide +kernel
theorem dX7_init_1 : decode cX7_init 1 = .ok (.invokespecial 1, 3) := by decide +kernel
theorem dX7_init_4 : decode cX7_init 4 = .ok (.aload_n 0, 1) := by decide +kernel
theorem dX7_init_5 : decode cX7_init 5 = .ok (.bipush 10, 2) := by decide +kernel
theorem dX7_init_7 : decode cX7_init 7 = .ok (.newarray .boolean, 2) := by decide +kernel
theorem dX7_init_9 : decode cX7_init 9 = .ok (.putfield 7, 3) := by decide +kernel
theorem dX7_init_12 : decode cX7_init 12 = .ok (.aload_n 0, 1) := by decide +kernel
theorem dX7_init_13 : decode cX7_init 13 = .ok (.bipush 10, 2) := by decide +kernel
theorem dX7_init_15 : decode cX7_init 15 = .ok (.newarray .int, 2) := by decide +kernel
theorem dX7_init_17 : decode cX7_init 17 = .ok (.putfield 13, 3) := by decide +kernel
theorem dX7_init_20 : decode cX7_init 20 = .ok (.aload_n 0, 1) := by decide +kernel
theorem dX7_init_21 : decode cX7_init 21 = .ok (.bipush 10, 2) := by decide +kernel
theorem dX7_init_23 : decode cX7_init 23 = .ok (.newarray .int, 2) := by decide +kernel
theorem dX7_init_25 : decode cX7_init 25 = .ok (.putfield 17, 3) := by decide +kernel
theorem dX7_init_28 : decode cX7_init 28 = .ok (.aload_n 0, 1) := by decide +kernel
theorem dX7_init_29 : decode cX7_init 29 = .ok (.bipush 24, 2) := by decide +kernel
theorem dX7_init_31 : decode cX7_init 31 = .ok (.newarray .long, 2) := by decide +kernel
theorem dX7_init_33 : decode cX7_init 33 = .ok (.putfield 20, 3) := by decide +kernel
theorem dX7_init_36 : decode cX7_init 36 = .ok (.aload_n 0, 1) := by decide +kernel
theorem dX7_init_37 : decode cX7_init 37 = .ok (.sipush 300, 3) := by decide +kernel
theorem dX7_init_40 : decode cX7_init 40 = .ok (.newarray .int, 2) := by decide +kernel
theorem dX7_init_42 : decode cX7_init 42 = .ok (.putfield 24, 3) := by decide +kernel
theorem dX7_init_45 : decode cX7_init 45 = .ok (.aload_n 0, 1) := by decide +kernel
theorem dX7_init_46 : decode cX7_init 46 = .ok (.sipush 300, 3) := by decide +kernel
theorem dX7_init_49 : decode cX7_init 49 = .ok (.newarray .int, 2) := by decide +kernel
theorem dX7_init_51 : decode cX7_init 51 = .ok (.putfield 27, 3) := by decide +kernel
theorem dX7_init_54 : decode cX7_init 54 = .ok (.aload_n 0, 1) := by decide +kernel
theorem dX7_init_55 : decode cX7_init 55 = .ok (.sipush 300, 3) := by decide +kernel
theorem dX7_init_58 : decode cX7_init 58 = .ok (.newarray .int, 2) := by decide +kernel
theorem dX7_init_60 : decode cX7_init 60 = .ok (.putfield 30, 3) := by decide +kernel
theorem dX7_init_63 : decode cX7_init 63 = .ok (.aload_n 0, 1) := by decide +kernel
theorem dX7_init_64 : decode cX7_init 64 = .ok (.sipush 300, 3) := by decide +kernel
theorem dX7_init_67 : decode cX7_init 67 = .ok (.newarray .int, 2) := by decide +kernel
theorem dX7_init_69 : decode cX7_init 69 = .ok (.putfield 33, 3) := by decide +kernel
theorem dX7_init_72 : decode cX7_init 72 = .ok (.aload_n 0, 1) := by decide +kernel
theorem dX7_init_73 : decode cX7_init 73 = .ok (.sipush 300, 3) := by decide +kernel
theorem dX7_init_76 : decode cX7_init 76 = .ok (.newarray .int, 2) := by decide +kernel
theorem dX7_init_78 : decode cX7_init 78 = .ok (.putfield 36, 3) := by decide +kernel
theorem dX7_init_81 : decode cX7_init 81 = .ok (.aload_n 0, 1) := by decide +kernel
theorem dX7_init_82 : decode cX7_init 82 = .ok (.sipush 300, 3) := by decide +kernel
theorem dX7_init_85 : decode cX7_init 85 = .ok (.newarray .int, 2) := by decide +kernel
theorem dX7_init_87 : decode cX7_init 87 = .ok (.putfield 39, 3) := by decide +kernel
theorem dX7_init_90 : decode cX7_init 90 = .ok (.aload_n 0, 1) := by decide +kernel
theorem dX7_init_91 : decode cX7_init 91 = .ok (.sipush 300, 3) := by decide +kernel
theorem dX7_init_94 : decode cX7_init 94 = .ok (.newarray .int, 2) := by decide +kernel
theorem dX7_init_96 : decode cX7_init 96 = .ok (.putfield 42, 3) := by decide +kernel
theorem dX7_init_99 : decode cX7_init 99 = .ok (.aload_n 0, 1) := by decide +kernel
theorem dX7_init_100 : decode cX7_init 100 = .ok (.sipush 300, 3) := by decide +kernel
theorem dX7_init_103 : decode cX7_init 103 = .ok (.newarray .int, 2) := by decide +kernel
theorem dX7_init_105 : decode cX7_init 105 = .ok (.putfield 45, 3) := by decide +kernel
theorem dX7_init_108 : decode cX7_init 108 = .ok (.aload_n 0, 1) := by decide +kernel
theorem dX7_init_109 : decode cX7_init 109 = .ok (.sipush 300, 3) := by decide +kernel
theorem dX7_init_112 : decode cX7_init 112 = .ok (.newarray .int, 2) := by decide +kernel
theorem dX7_init_114 : decode cX7_init 114 = .ok (.putfield 48, 3) := by decide +kernel
theorem dX7_init_117 : decode cX7_init 117 = .ok (.aload_n 0, 1) := by decide +kernel
theorem dX7_init_118 : decode cX7_init 118 = .ok (.sipush 300, 3) := by decide +kernel
theorem dX7_init_121 : decode cX7_init 121 = .ok (.newarray .int, 2) := by decide +kernel
theorem dX7_init_123 : decode cX7_init 123 = .ok (.putfield 51, 3) := by decide +kernel
theorem dX7_init_126 : decode cX7_init 126 = .ok (.aload_n 0, 1) := by decide +kernel
theorem dX7_init_127 : decode cX7_init 127 = .ok (.sipush 300, 3) := by decide +kernel
theorem dX7_init_130 : decode cX7_init 130 = .ok (.newarray .long, 2) := by decide +kernel
theorem dX7_init_132 : decode cX7_init 132 = .ok (.putfield 54, 3) := by decide +kernel
theorem dX7_init_135 : decode cX7_init 135 = .ok (.aload_n 0, 1) := by decide +kernel
theorem dX7_init_136 : decode cX7_init 136 = .ok (.sipush 300, 3) := by decide +kernel
theorem dX7_init_139 : decode cX7_init 139 = .ok (.newarray .int, 2) := by decide +kernel
theorem dX7_init_141 : decode cX7_init 141 = .ok (.putfield 57, 3) := by decide +kernel
theorem dX7_init_144 : decode cX7_init 144 = .ok (.aload_n 0, 1) := by decide +kernel
theorem dX7_init_145 : decode cX7_init 145 = .ok (.sipush 300, 3) := by decide +kernel
theorem dX7_init_148 : decode cX7_init 148 = .ok (.newarray .int, 2) := by decide +kernel
theorem dX7_init_150 : decode cX7_init 150 = .ok (.putfield 60, 3) := by decide +kernel
theorem dX7_init_153 : decode cX7_init 153 = .ok (.aload_n 0, 1) := by decide +kernel
theorem dX7_init_154 : decode cX7_init 154 = .ok (.sipush 300, 3) := by decide +kernel
theorem dX7_init_157 : decode cX7_init 157 = .ok (.newarray .boolean, 2) := by decide +kernel
theorem dX7_init_159 : decode cX7_init 159 = .ok (.putfield 63, 3) := by decide +kernel
theorem dX7_init_162 : decode cX7_init 162 = .ok (.aload_n 0, 1) := by decide +kernel
theorem dX7_init_163 : decode cX7_init 163 = .ok (.bipush 121, 2) := by decide +kernel
theorem dX7_init_165 : decode cX7_init 165 = .ok (.newarray .int, 2) := by decide +kernel
theorem dX7_init_167 : decode cX7_init 167 = .ok (.putfield 66, 3) := by decide +kernel
theorem dX7_init_170 : decode cX7_init 170 = .ok (.aload_n 0, 1) := by decide +kernel
theorem dX7_init_171 : decode cX7_init 171 = .ok (.bipush 121, 2) := by decide +kernel
theorem dX7_init_173 : decode cX7_init 173 = .ok (.newarray .boolean, 2) := by decide +kernel
theorem dX7_init_175 : decode cX7_init 175 = .ok (.putfield 69, 3) := by decide +kernel
theorem dX7_init_178 : decode cX7_init 178 = .ok (.aload_n 0, 1) := by decide +kernel
theorem dX7_init_179 : decode cX7_init 179 = .ok (.bipush 121, 2) := by decide +kernel
theorem dX7_init_181 : decode cX7_init 181 = .ok (.newarray .int, 2) := by decide +kernel
theorem dX7_init_183 : decode cX7_init 183 = .ok (.putfield 72, 3) := by decide +kernel
theorem dX7_init_186 : decode cX7_init 186 = .ok (.aload_n 0, 1) := by decide +kernel
theorem dX7_init_187 : decode cX7_init 187 = .ok (.bipush 121, 2) := by decide +kernel
theorem dX7_init_189 : decode cX7_init 189 = .ok (.newarray .long, 2) := by decide +kernel
theorem dX7_init_191 : decode cX7_init 191 = .ok (.putfield 75, 3) := by decide +kernel
theorem dX7_init_194 : decode cX7_init 194 = .ok (.aload_n 0, 1) := by decide +kernel
theorem dX7_init_195 : decode cX7_init 195 = .ok (.bipush 121, 2) := by decide +kernel
theorem dX7_init_197 : decode cX7_init 197 = .ok (.newarray .boolean, 2) := by decide +kernel
theorem dX7_init_199 : decode cX7_init 199 = .ok (.putfield 78, 3) := by decide +kernel
theorem dX7_init_202 : decode cX7_init 202 = .ok (.aload_n 0, 1) := by decide +kernel
theorem dX7_init_203 : decode cX7_init 203 = .ok (.bipush 40, 2) := by decide +kernel
theorem dX7_init_205 : decode cX7_init 205 = .ok (.newarray .int, 2) := by decide +kernel
theorem dX7_init_207 : decode cX7_init 207 = .ok (.putfield 81, 3) := by decide +kernel
theorem dX7_init_210 : decode cX7_init 210 = .ok (.aload_n 0, 1) := by decide +kernel
theorem dX7_init_211 : decode cX7_init 211 = .ok (.bipush 40, 2) := by decide +kernel
theorem dX7_init_213 : decode cX7_init 213 = .ok (.newarray .int, 2) := by decide +kernel
theorem dX7_init_215 : decode cX7_init 215 = .ok (.putfield 84, 3) := by decide +kernel
theorem dX7_init_218 : decode cX7_init 218 = .ok (.aload_n 0, 1) := by decide +kernel
theorem dX7_init_219 : decode cX7_init 219 = .ok (.sipush 700, 3) := by decide +kernel
theorem dX7_init_222 : decode cX7_init 222 = .ok (.newarray .int, 2) := by decide +kernel
theorem dX7_init_224 : decode cX7_init 224 = .ok (.putfield 87, 3) := by decide +kernel
theorem dX7_init_227 : decode cX7_init 227 = .ok (.aload_n 0, 1) := by decide +kernel
theorem dX7_init_228 : decode cX7_init 228 = .ok (.sipush 700, 3) := by decide +kernel
theorem dX7_init_231 : decode cX7_init 231 = .ok (.newarray .int, 2) := by decide +kernel
theorem dX7_init_233 : decode cX7_init 233 = .ok (.putfield 90, 3) := by decide +kernel
theorem dX7_init_236 : decode cX7_init 236 = .ok (.aload_n 0, 1) := by decide +kernel
theorem dX7_init_237 : decode cX7_init 237 = .ok (.sipush 700, 3) := by decide +kernel
theorem dX7_init_240 : decode cX7_init 240 = .ok (.newarray .int, 2) := by decide +kernel
theorem dX7_init_242 : decode cX7_init 242 = .ok (.putfield 93, 3) := by decide +kernel
theorem dX7_init_245 : decode cX7_init 245 = .ok (.aload_n 0, 1) := by decide +kernel
theorem dX7_init_246 : decode cX7_init 246 = .ok (.sipush 700, 3) := by decide +kernel
theorem dX7_init_249 : decode cX7_init 249 = .ok (.newarray .long, 2) := by decide +kernel
theorem dX7_init_251 : decode cX7_init 251 = .ok (.putfield 96, 3) := by decide +kernel
theorem dX7_init_254 : decode cX7_init 254 = .ok (.aload_n 0, 1) := by decide +kernel
theorem dX7_init_255 : decode cX7_init 255 = .ok (.sipush 700, 3) := by decide +kernel
theorem dX7_init_258 : decode cX7_init 258 = .ok (.newarray .int, 2) := by decide +kernel
theorem dX7_init_260 : decode cX7_init 260 = .ok (.putfield 99, 3) := by decide +kernel
theorem dX7_init_263 : decode cX7_init 263 = .ok (.aload_n 0, 1) := by decide +kernel
theorem dX7_init_264 : decode cX7_init 264 = .ok (.iload_n 1, 1) := by decide +kernel
theorem dX7_init_265 : decode cX7_init 265 = .ok (.iconst 1, 1) := by decide +kernel
theorem dX7_init_266 : decode cX7_init 266 = .ok (.if_icmp .ge 7, 3) := by decide +kernel
theorem dX7_init_269 : decode cX7_init 269 = .ok (.iconst 1, 1) := by decide +kernel
theorem dX7_init_270 : decode cX7_init 270 = .ok (.goto 15, 3) := by decide +kernel
theorem dX7_init_273 : decode cX7_init 273 = .ok (.iload_n 1, 1) := by decide +kernel
theorem dX7_init_274 : decode cX7_init 274 = .ok (.bipush 16, 2) := by decide +kernel
theorem dX7_init_276 : decode cX7_init 276 = .ok (.if_icmp .le 8, 3) := by decide +kernel
theorem dX7_init_279 : decode cX7_init 279 = .ok (.bipush 16, 2) := by decide +kernel
theorem dX7_init_281 : decode cX7_init 281 = .ok (.goto 4, 3) := by decide +kernel
theorem dX7_init_284 : decode cX7_init 284 = .ok (.iload_n 1, 1) := by decide +kernel
theorem dX7_init_285 : decode cX7_init 285 = .ok (.putfield 102, 3) := by decide +kernel
theorem dX7_init_288 : decode cX7_init 288 = .ok (.iconst 0, 1) := by decide +kernel
theorem dX7_init_289 : decode cX7_init 289 = .ok (.istore_n 2, 1) := by decide +kernel
theorem dX7_init_290 : decode cX7_init 290 = .ok (.iload_n 2, 1) := by decide +kernel
theorem dX7_init_291 : decode cX7_init 291 = .ok (.bipush 10, 2) := by decide +kernel
theorem dX7_init_293 : decode cX7_init 293 = .ok (.if_icmp .ge 23, 3) := by decide +kernel
theorem dX7_init_296 : decode cX7_init 296 = .ok (.aload_n 0, 1) := by decide +kernel
theorem dX7_init_297 : decode cX7_init 297 = .ok (.getfield 13, 3) := by decide +kernel
theorem dX7_init_300 : decode cX7_init 300 = .ok (.iload_n 2, 1) := by decide +kernel
theorem dX7_init_301 : decode cX7_init 301 = .ok (.iconst 1, 1) := by decide +kernel
theorem dX7_init_302 : decode cX7_init 302 = .ok (.iastore, 1) := by decide +kernel
theorem dX7_init_303 : decode cX7_init 303 = .ok (.aload_n 0, 1) := by decide +kernel
theorem dX7_init_304 : decode cX7_init 304 = .ok (.getfield 17, 3) := by decide +kernel
theorem dX7_init_307 : decode cX7_init 307 = .ok (.iload_n 2, 1) := by decide +kernel
theorem dX7_init_308 : decode cX7_init 308 = .ok (.iconst 1, 1) := by decide +kernel
theorem dX7_init_309 : decode cX7_init 309 = .ok (.iastore, 1) := by decide +kernel
theorem dX7_init_310 : decode cX7_init 310 = .ok (.iinc 2 1, 3) := by decide +kernel
theorem dX7_init_313 : decode cX7_init 313 = .ok (.goto (-23), 3) := by decide +kernel
theorem dX7_init_316 : decode cX7_init 316 = .ok (.iconst 0, 1) := by decide +kernel
theorem dX7_init_317 : decode cX7_init 317 = .ok (.istore_n 2, 1) := by decide +kernel
theorem dX7_init_318 : decode cX7_init 318 = .ok (.iload_n 2, 1) := by decide +kernel
theorem dX7_init_319 : decode cX7_init 319 = .ok (.bipush 40, 2) := by decide +kernel
theorem dX7_init_321 : decode cX7_init 321 = .ok (.if_icmp .ge 16, 3) := by decide +kernel
theorem dX7_init_324 : decode cX7_init 324 = .ok (.aload_n 0, 1) := by decide +kernel
theorem dX7_init_325 : decode cX7_init 325 = .ok (.getfield 84, 3) := by decide +kernel
theorem dX7_init_328 : decode cX7_init 328 = .ok (.iload_n 2, 1) := by decide +kernel
theorem dX7_init_329 : decode cX7_init 329 = .ok (.iconst 1, 1) := by decide +kernel
theorem dX7_init_330 : decode cX7_init 330 = .ok (.iastore, 1) := by decide +kernel
theorem dX7_init_331 : decode cX7_init 331 = .ok (.iinc 2 1, 3) := by decide +kernel
theorem dX7_init_334 : decode cX7_init 334 = .ok (.goto (-16), 3) := by decide +kernel
theorem dX7_init_337 : decode cX7_init 337 = .ok (.return_, 1) := by decide +kernel
theorem dX7_in_0 : decode cX7_in 0 = .ok (.lload_n 0, 1) := by decide +kernel
theorem dX7_in_1 : decode cX7_in 1 = .ok (.lload_n 2, 1) := by decide +kernel
theorem dX7_in_2 : decode cX7_in 2 = .ok (.lcmp, 1) := by decide +kernel
theorem dX7_in_3 : decode cX7_in 3 = .ok (.ifCond .lt 14, 3) := by decide +kernel
theorem dX7_in_6 : decode cX7_in 6 = .ok (.lload_n 0, 1) := by decide +kernel
theorem dX7_in_7 : decode cX7_in 7 = .ok (.lload 4, 2) := by decide +kernel
theorem dX7_in_9 : decode cX7_in 9 = .ok (.lcmp, 1) := by decide +kernel
theorem dX7_in_10 : decode cX7_in 10 = .ok (.ifCond .gt 7, 3) := by decide +kernel
theorem dX7_in_13 : decode cX7_in 13 = .ok (.iconst 1, 1) := by decide +kernel
theorem dX7_in_14 : decode cX7_in 14 = .ok (.goto 4, 3) := by decide +kernel
theorem dX7_in_17 : decode cX7_in 17 = .ok (.iconst 0, 1) := by decide +kernel
theorem dX7_in_18 : decode cX7_in 18 = .ok (.ireturn, 1) := by decide +kernel
theorem dX7_isAsk_0 : decode cX7_isAsk 0 = .ok (.iload_n 1, 1) := by decide +kernel
theorem dX7_isAsk_1 : decode cX7_isAsk 1 = .ok (.i2l, 1) := by decide +kernel
theorem dX7_isAsk_2 : decode cX7_isAsk 2 = .ok (.lconst 0, 1) := by decide +kernel
theorem dX7_isAsk_3 : decode cX7_isAsk 3 = .ok (.aload_n 0, 1) := by decide +kernel
theorem dX7_isAsk_4 : decode cX7_isAsk 4 = .ok (.getfield 106, 3) := by decide +kernel
theorem dX7_isAsk_7 : decode cX7_isAsk 7 = .ok (.iconst 1, 1) := by decide +kernel
theorem dX7_isAsk_8 : decode cX7_isAsk 8 = .ok (.isub, 1) := by decide +kernel
theorem dX7_isAsk_9 : decode cX7_isAsk 9 = .ok (.i2l, 1) := by decide +kernel
theorem dX7_isAsk_10 : decode cX7_isAsk 10 = .ok (.invokestatic 109, 3) := by decide +kernel
theorem dX7_isAsk_13 : decode cX7_isAsk 13 = .ok (.ireturn, 1) := by decide +kernel
theorem dX7_lowest_0 : decode cX7_lowest 0 = .ok (.aload_n 0, 1) := by decide +kernel
theorem dX7_lowest_1 : decode cX7_lowest 1 = .ok (.getfield 17, 3) := by decide +kernel
theorem dX7_lowest_4 : decode cX7_lowest 4 = .ok (.iload_n 1, 1) := by decide +kernel
theorem dX7_lowest_5 : decode cX7_lowest 5 = .ok (.iaload, 1) := by decide +kernel
theorem dX7_lowest_6 : decode cX7_lowest 6 = .ok (.istore_n 2, 1) := by decide +kernel
theorem dX7_lowest_7 : decode cX7_lowest 7 = .ok (.iconst 0, 1) := by decide +kernel
theorem dX7_lowest_8 : decode cX7_lowest 8 = .ok (.istore_n 3, 1) := by decide +kernel
theorem dX7_lowest_9 : decode cX7_lowest 9 = .ok (.iload_n 3, 1) := by decide +kernel
theorem dX7_lowest_10 : decode cX7_lowest 10 = .ok (.aload_n 0, 1) := by decide +kernel
theorem dX7_lowest_11 : decode cX7_lowest 11 = .ok (.getfield 106, 3) := by decide +kernel
theorem dX7_lowest_14 : decode cX7_lowest 14 = .ok (.if_icmp .ge 60, 3) := by decide +kernel
theorem dX7_lowest_17 : decode cX7_lowest 17 = .ok (.aload_n 0, 1) := by decide +kernel
theorem dX7_lowest_18 : decode cX7_lowest 18 = .ok (.getfield 24, 3) := by decide +kernel
theorem dX7_lowest_21 : decode cX7_lowest 21 = .ok (.iload_n 3, 1) := by decide +kernel
theorem dX7_lowest_22 : decode cX7_lowest 22 = .ok (.iaload, 1) := by decide +kernel
theorem dX7_lowest_23 : decode cX7_lowest 23 = .ok (.iload_n 1, 1) := by decide +kernel
theorem dX7_lowest_24 : decode cX7_lowest 24 = .ok (.if_icmp .ne 44, 3) := by decide +kernel
theorem dX7_lowest_27 : decode cX7_lowest 27 = .ok (.aload_n 0, 1) := by decide +kernel
theorem dX7_lowest_28 : decode cX7_lowest 28 = .ok (.getfield 27, 3) := by decide +kernel
theorem dX7_lowest_31 : decode cX7_lowest 31 = .ok (.iload_n 3, 1) := by decide +kernel
theorem dX7_lowest_32 : decode cX7_lowest 32 = .ok (.iaload, 1) := by decide +kernel
theorem dX7_lowest_33 : decode cX7_lowest 33 = .ok (.aload_n 0, 1) := by decide +kernel
theorem dX7_lowest_34 : decode cX7_lowest 34 = .ok (.getfield 13, 3) := by decide +kernel
theorem dX7_lowest_37 : decode cX7_lowest 37 = .ok (.iload_n 1, 1) := by decide +kernel
theorem dX7_lowest_38 : decode cX7_lowest 38 = .ok (.iaload, 1) := by decide +kernel
theorem dX7_lowest_39 : decode cX7_lowest 39 = .ok (.if_icmp .ne 29, 3) := by decide +kernel
theorem dX7_lowest_42 : decode cX7_lowest 42 = .ok (.aload_n 0, 1) := by decide +kernel
theorem dX7_lowest_43 : decode cX7_lowest 43 = .ok (.getfield 51, 3) := by decide +kernel
theorem dX7_lowest_46 : decode cX7_lowest 46 = .ok (.iload_n 3, 1) := by decide +kernel
theorem dX7_lowest_47 : decode cX7_lowest 47 = .ok (.iaload, 1) := by decide +kernel
theorem dX7_lowest_48 : decode cX7_lowest 48 = .ok (.ifCond .ne 20, 3) := by decide +kernel
theorem dX7_lowest_51 : decode cX7_lowest 51 = .ok (.aload_n 0, 1) := by decide +kernel
theorem dX7_lowest_52 : decode cX7_lowest 52 = .ok (.getfield 30, 3) := by decide +kernel
theorem dX7_lowest_55 : decode cX7_lowest 55 = .ok (.iload_n 3, 1) := by decide +kernel
theorem dX7_lowest_56 : decode cX7_lowest 56 = .ok (.iaload, 1) := by decide +kernel
theorem dX7_lowest_57 : decode cX7_lowest 57 = .ok (.iload_n 2, 1) := by decide +kernel
theorem dX7_lowest_58 : decode cX7_lowest 58 = .ok (.if_icmp .ge 10, 3) := by decide +kernel
theorem dX7_lowest_61 : decode cX7_lowest 61 = .ok (.aload_n 0, 1) := by decide +kernel
theorem dX7_lowest_62 : decode cX7_lowest 62 = .ok (.getfield 30, 3) := by decide +kernel
theorem dX7_lowest_65 : decode cX7_lowest 65 = .ok (.iload_n 3, 1) := by decide +kernel
theorem dX7_lowest_66 : decode cX7_lowest 66 = .ok (.iaload, 1) := by decide +kernel
theorem dX7_lowest_67 : decode cX7_lowest 67 = .ok (.istore_n 2, 1) := by decide +kernel
theorem dX7_lowest_68 : decode cX7_lowest 68 = .ok (.iinc 3 1, 3) := by decide +kernel
theorem dX7_lowest_71 : decode cX7_lowest 71 = .ok (.goto (-62), 3) := by decide +kernel
theorem dX7_lowest_74 : decode cX7_lowest 74 = .ok (.iload_n 2, 1) := by decide +kernel
theorem dX7_lowest_75 : decode cX7_lowest 75 = .ok (.ireturn, 1) := by decide +kernel
theorem dX7_isUsedUp_0 : decode cX7_isUsedUp 0 = .ok (.aload_n 0, 1) := by decide +kernel
theorem dX7_isUsedUp_1 : decode cX7_isUsedUp 1 = .ok (.getfield 17, 3) := by decide +kernel
theorem dX7_isUsedUp_4 : decode cX7_isUsedUp 4 = .ok (.iload_n 1, 1) := by decide +kernel
theorem dX7_isUsedUp_5 : decode cX7_isUsedUp 5 = .ok (.iaload, 1) := by decide +kernel
theorem dX7_isUsedUp_6 : decode cX7_isUsedUp 6 = .ok (.aload_n 0, 1) := by decide +kernel
theorem dX7_isUsedUp_7 : decode cX7_isUsedUp 7 = .ok (.iload_n 1, 1) := by decide +kernel
theorem dX7_isUsedUp_8 : decode cX7_isUsedUp 8 = .ok (.invokevirtual 113, 3) := by decide +kernel
theorem dX7_isUsedUp_11 : decode cX7_isUsedUp 11 = .ok (.aload_n 0, 1) := by decide +kernel
theorem dX7_isUsedUp_12 : decode cX7_isUsedUp 12 = .ok (.getfield 102, 3) := by decide +kernel
theorem dX7_isUsedUp_15 : decode cX7_isUsedUp 15 = .ok (.iadd, 1) := by decide +kernel
theorem dX7_isUsedUp_16 : decode cX7_isUsedUp 16 = .ok (.if_icmp .lt 7, 3) := by decide +kernel
theorem dX7_isUsedUp_19 : decode cX7_isUsedUp 19 = .ok (.iconst 1, 1) := by decide +kernel
theorem dX7_isUsedUp_20 : decode cX7_isUsedUp 20 = .ok (.goto 4, 3) := by decide +kernel
theorem dX7_isUsedUp_23 : decode cX7_isUsedUp 23 = .ok (.iconst 0, 1) := by decide +kernel
theorem dX7_isUsedUp_24 : decode cX7_isUsedUp 24 = .ok (.ireturn, 1) := by decide +kernel
theorem dX7_send_0 : decode cX7_send 0 = .ok (.aload_n 0, 1) := by decide +kernel
theorem dX7_send_1 : decode cX7_send 1 = .ok (.getfield 117, 3) := by decide +kernel
theorem dX7_send_4 : decode cX7_send 4 = .ok (.ifCond .eq 4, 3) := by decide +kernel
theorem dX7_send_7 : decode cX7_send 7 = .ok (.return_, 1) := by decide +kernel
theorem dX7_send_8 : decode cX7_send 8 = .ok (.aload_n 0, 1) := by decide +kernel
theorem dX7_send_9 : decode cX7_send 9 = .ok (.dup, 1) := by decide +kernel
theorem dX7_send_10 : decode cX7_send 10 = .ok (.getfield 121, 3) := by decide +kernel
theorem dX7_send_13 : decode cX7_send 13 = .ok (.iconst 1, 1) := by decide +kernel
theorem dX7_send_14 : decode cX7_send 14 = .ok (.iadd, 1) := by decide +kernel
theorem dX7_send_15 : decode cX7_send 15 = .ok (.putfield 121, 3) := by decide +kernel
theorem dX7_send_18 : decode cX7_send 18 = .ok (.aload_n 0, 1) := by decide +kernel
theorem dX7_send_19 : decode cX7_send 19 = .ok (.getfield 124, 3) := by decide +kernel
theorem dX7_send_22 : decode cX7_send 22 = .ok (.bipush 120, 2) := by decide +kernel
theorem dX7_send_24 : decode cX7_send 24 = .ok (.if_icmp .ne 14, 3) := by decide +kernel
theorem dX7_send_27 : decode cX7_send 27 = .ok (.aload_n 0, 1) := by decide +kernel
theorem dX7_send_28 : decode cX7_send 28 = .ok (.dup, 1) := by decide +kernel
theorem dX7_send_29 : decode cX7_send 29 = .ok (.getfield 127, 3) := by decide +kernel
theorem dX7_send_32 : decode cX7_send 32 = .ok (.iconst 1, 1) := by decide +kernel
theorem dX7_send_33 : decode cX7_send 33 = .ok (.iadd, 1) := by decide +kernel
theorem dX7_send_34 : decode cX7_send 34 = .ok (.putfield 127, 3) := by decide +kernel
theorem dX7_send_37 : decode cX7_send 37 = .ok (.return_, 1) := by decide +kernel
theorem dX7_send_38 : decode cX7_send 38 = .ok (.aload_n 0, 1) := by decide +kernel
theorem dX7_send_39 : decode cX7_send 39 = .ok (.getfield 66, 3) := by decide +kernel
theorem dX7_send_42 : decode cX7_send 42 = .ok (.aload_n 0, 1) := by decide +kernel
theorem dX7_send_43 : decode cX7_send 43 = .ok (.getfield 124, 3) := by decide +kernel
theorem dX7_send_46 : decode cX7_send 46 = .ok (.iload_n 1, 1) := by decide +kernel
theorem dX7_send_47 : decode cX7_send 47 = .ok (.iastore, 1) := by decide +kernel
theorem dX7_send_48 : decode cX7_send 48 = .ok (.aload_n 0, 1) := by decide +kernel
theorem dX7_send_49 : decode cX7_send 49 = .ok (.getfield 69, 3) := by decide +kernel
theorem dX7_send_52 : decode cX7_send 52 = .ok (.aload_n 0, 1) := by decide +kernel
theorem dX7_send_53 : decode cX7_send 53 = .ok (.getfield 124, 3) := by decide +kernel
theorem dX7_send_56 : decode cX7_send 56 = .ok (.iload_n 2, 1) := by decide +kernel
theorem dX7_send_57 : decode cX7_send 57 = .ok (.bastore, 1) := by decide +kernel
theorem dX7_send_58 : decode cX7_send 58 = .ok (.aload_n 0, 1) := by decide +kernel
theorem dX7_send_59 : decode cX7_send 59 = .ok (.getfield 72, 3) := by decide +kernel
theorem dX7_send_62 : decode cX7_send 62 = .ok (.aload_n 0, 1) := by decide +kernel
theorem dX7_send_63 : decode cX7_send 63 = .ok (.getfield 124, 3) := by decide +kernel
theorem dX7_send_66 : decode cX7_send 66 = .ok (.iload_n 2, 1) := by decide +kernel
theorem dX7_send_67 : decode cX7_send 67 = .ok (.ifCond .eq 7, 3) := by decide +kernel
theorem dX7_send_70 : decode cX7_send 70 = .ok (.iconst (-1), 1) := by decide +kernel
theorem dX7_send_71 : decode cX7_send 71 = .ok (.goto 13, 3) := by decide +kernel
theorem dX7_send_74 : decode cX7_send 74 = .ok (.aload_n 0, 1) := by decide +kernel
theorem dX7_send_75 : decode cX7_send 75 = .ok (.aload_n 0, 1) := by decide +kernel
theorem dX7_send_76 : decode cX7_send 76 = .ok (.getfield 24, 3) := by decide +kernel
theorem dX7_send_79 : decode cX7_send 79 = .ok (.iload_n 1, 1) := by decide +kernel
theorem dX7_send_80 : decode cX7_send 80 = .ok (.iaload, 1) := by decide +kernel
theorem dX7_send_81 : decode cX7_send 81 = .ok (.invokevirtual 113, 3) := by decide +kernel
theorem dX7_send_84 : decode cX7_send 84 = .ok (.iastore, 1) := by decide +kernel
theorem dX7_send_85 : decode cX7_send 85 = .ok (.aload_n 0, 1) := by decide +kernel
theorem dX7_send_86 : decode cX7_send 86 = .ok (.getfield 75, 3) := by decide +kernel
theorem dX7_send_89 : decode cX7_send 89 = .ok (.aload_n 0, 1) := by decide +kernel
theorem dX7_send_90 : decode cX7_send 90 = .ok (.getfield 124, 3) := by decide +kernel
theorem dX7_send_93 : decode cX7_send 93 = .ok (.lload_n 3, 1) := by decide +kernel
theorem dX7_send_94 : decode cX7_send 94 = .ok (.lastore, 1) := by decide +kernel
theorem dX7_send_95 : decode cX7_send 95 = .ok (.aload_n 0, 1) := by decide +kernel
theorem dX7_send_96 : decode cX7_send 96 = .ok (.getfield 78, 3) := by decide +kernel
theorem dX7_send_99 : decode cX7_send 99 = .ok (.aload_n 0, 1) := by decide +kernel
theorem dX7_send_100 : decode cX7_send 100 = .ok (.getfield 124, 3) := by decide +kernel
theorem dX7_send_103 : decode cX7_send 103 = .ok (.iconst 0, 1) := by decide +kernel
theorem dX7_send_104 : decode cX7_send 104 = .ok (.bastore, 1) := by decide +kernel
theorem dX7_send_105 : decode cX7_send 105 = .ok (.aload_n 0, 1) := by decide +kernel
theorem dX7_send_106 : decode cX7_send 106 = .ok (.dup, 1) := by decide +kernel
theorem dX7_send_107 : decode cX7_send 107 = .ok (.getfield 124, 3) := by decide +kernel
theorem dX7_send_110 : decode cX7_send 110 = .ok (.iconst 1, 1) := by decide +kernel
theorem dX7_send_111 : decode cX7_send 111 = .ok (.iadd, 1) := by decide +kernel
theorem dX7_send_112 : decode cX7_send 112 = .ok (.putfield 124, 3) := by decide +kernel
theorem dX7_send_115 : decode cX7_send 115 = .ok (.return_, 1) := by decide +kernel
theorem dX7_newAsk_0 : decode cX7_newAsk 0 = .ok (.aload_n 0, 1) := by decide +kernel
theorem dX7_newAsk_1 : decode cX7_newAsk 1 = .ok (.getfield 106, 3) := by decide +kernel
theorem dX7_newAsk_4 : decode cX7_newAsk 4 = .ok (.istore 9, 2) := by decide +kernel
theorem dX7_newAsk_6 : decode cX7_newAsk 6 = .ok (.aload_n 0, 1) := by decide +kernel
theorem dX7_newAsk_7 : decode cX7_newAsk 7 = .ok (.dup, 1) := by decide +kernel
theorem dX7_newAsk_8 : decode cX7_newAsk 8 = .ok (.getfield 106, 3) := by decide +kernel
theorem dX7_newAsk_11 : decode cX7_newAsk 11 = .ok (.iconst 1, 1) := by decide +kernel
theorem dX7_newAsk_12 : decode cX7_newAsk 12 = .ok (.iadd, 1) := by decide +kernel
theorem dX7_newAsk_13 : decode cX7_newAsk 13 = .ok (.putfield 106, 3) := by decide +kernel
theorem dX7_newAsk_16 : decode cX7_newAsk 16 = .ok (.aload_n 0, 1) := by decide +kernel
theorem dX7_newAsk_17 : decode cX7_newAsk 17 = .ok (.getfield 24, 3) := by decide +kernel
theorem dX7_newAsk_20 : decode cX7_newAsk 20 = .ok (.iload 9, 2) := by decide +kernel
theorem dX7_newAsk_22 : decode cX7_newAsk 22 = .ok (.iload_n 1, 1) := by decide +kernel
theorem dX7_newAsk_23 : decode cX7_newAsk 23 = .ok (.iastore, 1) := by decide +kernel
theorem dX7_newAsk_24 : decode cX7_newAsk 24 = .ok (.aload_n 0, 1) := by decide +kernel
theorem dX7_newAsk_25 : decode cX7_newAsk 25 = .ok (.getfield 27, 3) := by decide +kernel
theorem dX7_newAsk_28 : decode cX7_newAsk 28 = .ok (.iload 9, 2) := by decide +kernel
theorem dX7_newAsk_30 : decode cX7_newAsk 30 = .ok (.aload_n 0, 1) := by decide +kernel
theorem dX7_newAsk_31 : decode cX7_newAsk 31 = .ok (.getfield 13, 3) := by decide +kernel
theorem dX7_newAsk_34 : decode cX7_newAsk 34 = .ok (.iload_n 1, 1) := by decide +kernel
theorem dX7_newAsk_35 : decode cX7_newAsk 35 = .ok (.iaload, 1) := by decide +kernel
theorem dX7_newAsk_36 : decode cX7_newAsk 36 = .ok (.iastore, 1) := by decide +kernel
theorem dX7_newAsk_37 : decode cX7_newAsk 37 = .ok (.aload_n 0, 1) := by decide +kernel
theorem dX7_newAsk_38 : decode cX7_newAsk 38 = .ok (.getfield 30, 3) := by decide +kernel
theorem dX7_newAsk_41 : decode cX7_newAsk 41 = .ok (.iload 9, 2) := by decide +kernel
theorem dX7_newAsk_43 : decode cX7_newAsk 43 = .ok (.aload_n 0, 1) := by decide +kernel
theorem dX7_newAsk_44 : decode cX7_newAsk 44 = .ok (.getfield 17, 3) := by decide +kernel
theorem dX7_newAsk_47 : decode cX7_newAsk 47 = .ok (.iload_n 1, 1) := by decide +kernel
theorem dX7_newAsk_48 : decode cX7_newAsk 48 = .ok (.iaload, 1) := by decide +kernel
theorem dX7_newAsk_49 : decode cX7_newAsk 49 = .ok (.iastore, 1) := by decide +kernel
theorem dX7_newAsk_50 : decode cX7_newAsk 50 = .ok (.aload_n 0, 1) := by decide +kernel
theorem dX7_newAsk_51 : decode cX7_newAsk 51 = .ok (.getfield 17, 3) := by decide +kernel
theorem dX7_newAsk_54 : decode cX7_newAsk 54 = .ok (.iload_n 1, 1) := by decide +kernel
theorem dX7_newAsk_55 : decode cX7_newAsk 55 = .ok (.dup2, 1) := by decide +kernel
theorem dX7_newAsk_56 : decode cX7_newAsk 56 = .ok (.iaload, 1) := by decide +kernel
theorem dX7_newAsk_57 : decode cX7_newAsk 57 = .ok (.iconst 1, 1) := by decide +kernel
theorem dX7_newAsk_58 : decode cX7_newAsk 58 = .ok (.iadd, 1) := by decide +kernel
theorem dX7_newAsk_59 : decode cX7_newAsk 59 = .ok (.iastore, 1) := by decide +kernel
theorem dX7_newAsk_60 : decode cX7_newAsk 60 = .ok (.aload_n 0, 1) := by decide +kernel
theorem dX7_newAsk_61 : decode cX7_newAsk 61 = .ok (.getfield 33, 3) := by decide +kernel
theorem dX7_newAsk_64 : decode cX7_newAsk 64 = .ok (.iload 9, 2) := by decide +kernel
theorem dX7_newAsk_66 : decode cX7_newAsk 66 = .ok (.iload_n 2, 1) := by decide +kernel
theorem dX7_newAsk_67 : decode cX7_newAsk 67 = .ok (.iastore, 1) := by decide +kernel
theorem dX7_newAsk_68 : decode cX7_newAsk 68 = .ok (.aload_n 0, 1) := by decide +kernel
theorem dX7_newAsk_69 : decode cX7_newAsk 69 = .ok (.getfield 36, 3) := by decide +kernel
theorem dX7_newAsk_72 : decode cX7_newAsk 72 = .ok (.iload 9, 2) := by decide +kernel
theorem dX7_newAsk_74 : decode cX7_newAsk 74 = .ok (.iload_n 3, 1) := by decide +kernel
theorem dX7_newAsk_75 : decode cX7_newAsk 75 = .ok (.iastore, 1) := by decide +kernel
theorem dX7_newAsk_76 : decode cX7_newAsk 76 = .ok (.aload_n 0, 1) := by decide +kernel
theorem dX7_newAsk_77 : decode cX7_newAsk 77 = .ok (.getfield 39, 3) := by decide +kernel
theorem dX7_newAsk_80 : decode cX7_newAsk 80 = .ok (.iload 9, 2) := by decide +kernel
theorem dX7_newAsk_82 : decode cX7_newAsk 82 = .ok (.iload 4, 2) := by decide +kernel
theorem dX7_newAsk_84 : decode cX7_newAsk 84 = .ok (.iastore, 1) := by decide +kernel
theorem dX7_newAsk_85 : decode cX7_newAsk 85 = .ok (.aload_n 0, 1) := by decide +kernel
theorem dX7_newAsk_86 : decode cX7_newAsk 86 = .ok (.getfield 42, 3) := by decide +kernel
theorem dX7_newAsk_89 : decode cX7_newAsk 89 = .ok (.iload 9, 2) := by decide +kernel
theorem dX7_newAsk_91 : decode cX7_newAsk 91 = .ok (.iload 5, 2) := by decide +kernel
theorem dX7_newAsk_93 : decode cX7_newAsk 93 = .ok (.iastore, 1) := by decide +kernel
theorem dX7_newAsk_94 : decode cX7_newAsk 94 = .ok (.aload_n 0, 1) := by decide +kernel
theorem dX7_newAsk_95 : decode cX7_newAsk 95 = .ok (.getfield 45, 3) := by decide +kernel
theorem dX7_newAsk_98 : decode cX7_newAsk 98 = .ok (.iload 9, 2) := by decide +kernel
theorem dX7_newAsk_100 : decode cX7_newAsk 100 = .ok (.iload 6, 2) := by decide +kernel
theorem dX7_newAsk_102 : decode cX7_newAsk 102 = .ok (.iastore, 1) := by decide +kernel
theorem dX7_newAsk_103 : decode cX7_newAsk 103 = .ok (.aload_n 0, 1) := by decide +kernel
theorem dX7_newAsk_104 : decode cX7_newAsk 104 = .ok (.getfield 48, 3) := by decide +kernel
theorem dX7_newAsk_107 : decode cX7_newAsk 107 = .ok (.iload 9, 2) := by decide +kernel
theorem dX7_newAsk_109 : decode cX7_newAsk 109 = .ok (.iload 7, 2) := by decide +kernel
theorem dX7_newAsk_111 : decode cX7_newAsk 111 = .ok (.iastore, 1) := by decide +kernel
theorem dX7_newAsk_112 : decode cX7_newAsk 112 = .ok (.aload_n 0, 1) := by decide +kernel
theorem dX7_newAsk_113 : decode cX7_newAsk 113 = .ok (.getfield 51, 3) := by decide +kernel
theorem dX7_newAsk_116 : decode cX7_newAsk 116 = .ok (.iload 9, 2) := by decide +kernel
theorem dX7_newAsk_118 : decode cX7_newAsk 118 = .ok (.iconst 0, 1) := by decide +kernel
theorem dX7_newAsk_119 : decode cX7_newAsk 119 = .ok (.iastore, 1) := by decide +kernel
theorem dX7_newAsk_120 : decode cX7_newAsk 120 = .ok (.aload_n 0, 1) := by decide +kernel
theorem dX7_newAsk_121 : decode cX7_newAsk 121 = .ok (.getfield 57, 3) := by decide +kernel
theorem dX7_newAsk_124 : decode cX7_newAsk 124 = .ok (.iload 9, 2) := by decide +kernel
theorem dX7_newAsk_126 : decode cX7_newAsk 126 = .ok (.iload 8, 2) := by decide +kernel
theorem dX7_newAsk_128 : decode cX7_newAsk 128 = .ok (.iastore, 1) := by decide +kernel
theorem dX7_newAsk_129 : decode cX7_newAsk 129 = .ok (.aload_n 0, 1) := by decide +kernel
theorem dX7_newAsk_130 : decode cX7_newAsk 130 = .ok (.getfield 60, 3) := by decide +kernel
theorem dX7_newAsk_133 : decode cX7_newAsk 133 = .ok (.iload 9, 2) := by decide +kernel
theorem dX7_newAsk_135 : decode cX7_newAsk 135 = .ok (.iconst (-1), 1) := by decide +kernel
theorem dX7_newAsk_136 : decode cX7_newAsk 136 = .ok (.iastore, 1) := by decide +kernel
theorem dX7_newAsk_137 : decode cX7_newAsk 137 = .ok (.iload 9, 2) := by decide +kernel
theorem dX7_newAsk_139 : decode cX7_newAsk 139 = .ok (.ireturn, 1) := by decide +kernel
theorem dX7_ask_0 : decode cX7_ask 0 = .ok (.iload_n 1, 1) := by decide +kernel
theorem dX7_ask_1 : decode cX7_ask 1 = .ok (.i2l, 1) := by decide +kernel
theorem dX7_ask_2 : decode cX7_ask 2 = .ok (.lconst 0, 1) := by decide +kernel
theorem dX7_ask_3 : decode cX7_ask 3 = .ok (.ldc2_w 130, 3) := by decide +kernel
theorem dX7_ask_6 : decode cX7_ask 6 = .ok (.invokestatic 109, 3) := by decide +kernel
theorem dX7_ask_9 : decode cX7_ask 9 = .ok (.ifCond .eq 81, 3) := by decide +kernel
theorem dX7_ask_12 : decode cX7_ask 12 = .ok (.iload_n 2, 1) := by decide +kernel
theorem dX7_ask_13 : decode cX7_ask 13 = .ok (.i2l, 1) := by decide +kernel
theorem dX7_ask_14 : decode cX7_ask 14 = .ok (.lconst 0, 1) := by decide +kernel
theorem dX7_ask_15 : decode cX7_ask 15 = .ok (.ldc2_w 132, 3) := by decide +kernel
theorem dX7_ask_18 : decode cX7_ask 18 = .ok (.invokestatic 109, 3) := by decide +kernel
theorem dX7_ask_21 : decode cX7_ask 21 = .ok (.ifCond .eq 69, 3) := by decide +kernel
theorem dX7_ask_24 : decode cX7_ask 24 = .ok (.iload_n 3, 1) := by decide +kernel
theorem dX7_ask_25 : decode cX7_ask 25 = .ok (.i2l, 1) := by decide +kernel
theorem dX7_ask_26 : decode cX7_ask 26 = .ok (.lconst 0, 1) := by decide +kernel
theorem dX7_ask_27 : decode cX7_ask 27 = .ok (.ldc2_w 134, 3) := by decide +kernel
theorem dX7_ask_30 : decode cX7_ask 30 = .ok (.invokestatic 109, 3) := by decide +kernel
theorem dX7_ask_33 : decode cX7_ask 33 = .ok (.ifCond .eq 57, 3) := by decide +kernel
theorem dX7_ask_36 : decode cX7_ask 36 = .ok (.iload 4, 2) := by decide +kernel
theorem dX7_ask_38 : decode cX7_ask 38 = .ok (.i2l, 1) := by decide +kernel
theorem dX7_ask_39 : decode cX7_ask 39 = .ok (.lconst 0, 1) := by decide +kernel
theorem dX7_ask_40 : decode cX7_ask 40 = .ok (.ldc2_w 130, 3) := by decide +kernel
theorem dX7_ask_43 : decode cX7_ask 43 = .ok (.invokestatic 109, 3) := by decide +kernel
theorem dX7_ask_46 : decode cX7_ask 46 = .ok (.ifCond .eq 44, 3) := by decide +kernel
theorem dX7_ask_49 : decode cX7_ask 49 = .ok (.iload 5, 2) := by decide +kernel
theorem dX7_ask_51 : decode cX7_ask 51 = .ok (.i2l, 1) := by decide +kernel
theorem dX7_ask_52 : decode cX7_ask 52 = .ok (.lconst 0, 1) := by decide +kernel
theorem dX7_ask_53 : decode cX7_ask 53 = .ok (.ldc2_w 130, 3) := by decide +kernel
theorem dX7_ask_56 : decode cX7_ask 56 = .ok (.invokestatic 109, 3) := by decide +kernel
theorem dX7_ask_59 : decode cX7_ask 59 = .ok (.ifCond .eq 31, 3) := by decide +kernel
theorem dX7_ask_62 : decode cX7_ask 62 = .ok (.iload 6, 2) := by decide +kernel
theorem dX7_ask_64 : decode cX7_ask 64 = .ok (.i2l, 1) := by decide +kernel
theorem dX7_ask_65 : decode cX7_ask 65 = .ok (.lconst 0, 1) := by decide +kernel
theorem dX7_ask_66 : decode cX7_ask 66 = .ok (.ldc2_w 132, 3) := by decide +kernel
theorem dX7_ask_69 : decode cX7_ask 69 = .ok (.invokestatic 109, 3) := by decide +kernel
theorem dX7_ask_72 : decode cX7_ask 72 = .ok (.ifCond .eq 18, 3) := by decide +kernel
theorem dX7_ask_75 : decode cX7_ask 75 = .ok (.iload 7, 2) := by decide +kernel
theorem dX7_ask_77 : decode cX7_ask 77 = .ok (.i2l, 1) := by decide +kernel
theorem dX7_ask_78 : decode cX7_ask 78 = .ok (.ldc2_w 136, 3) := by decide +kernel
theorem dX7_ask_81 : decode cX7_ask 81 = .ok (.ldc2_w 138, 3) := by decide +kernel
theorem dX7_ask_84 : decode cX7_ask 84 = .ok (.invokestatic 109, 3) := by decide +kernel
theorem dX7_ask_87 : decode cX7_ask 87 = .ok (.ifCond .ne 6, 3) := by decide +kernel
theorem dX7_ask_90 : decode cX7_ask 90 = .ok (.ldc 140, 2) := by decide +kernel
theorem dX7_ask_92 : decode cX7_ask 92 = .ok (.ireturn, 1) := by decide +kernel
theorem dX7_ask_93 : decode cX7_ask 93 = .ok (.iload_n 3, 1) := by decide +kernel
theorem dX7_ask_94 : decode cX7_ask 94 = .ok (.iconst 2, 1) := by decide +kernel
theorem dX7_ask_95 : decode cX7_ask 95 = .ok (.if_icmp .eq 8, 3) := by decide +kernel
theorem dX7_ask_98 : decode cX7_ask 98 = .ok (.iload_n 3, 1) := by decide +kernel
theorem dX7_ask_99 : decode cX7_ask 99 = .ok (.iconst 3, 1) := by decide +kernel
theorem dX7_ask_100 : decode cX7_ask 100 = .ok (.if_icmp .ne 8, 3) := by decide +kernel
theorem dX7_ask_103 : decode cX7_ask 103 = .ok (.iload 7, 2) := by decide +kernel
theorem dX7_ask_105 : decode cX7_ask 105 = .ok (.ifCond .lt 14, 3) := by decide +kernel
theorem dX7_ask_108 : decode cX7_ask 108 = .ok (.iload_n 3, 1) := by decide +kernel
theorem dX7_ask_109 : decode cX7_ask 109 = .ok (.iconst 4, 1) := by decide +kernel
theorem dX7_ask_110 : decode cX7_ask 110 = .ok (.if_icmp .ne 12, 3) := by decide +kernel
theorem dX7_ask_113 : decode cX7_ask 113 = .ok (.iload 7, 2) := by decide +kernel
theorem dX7_ask_115 : decode cX7_ask 115 = .ok (.iconst 1, 1) := by decide +kernel
theorem dX7_ask_116 : decode cX7_ask 116 = .ok (.if_icmp .ge 6, 3) := by decide +kernel
theorem dX7_ask_119 : decode cX7_ask 119 = .ok (.ldc 140, 2) := by decide +kernel
theorem dX7_ask_121 : decode cX7_ask 121 = .ok (.ireturn, 1) := by decide +kernel
theorem dX7_ask_122 : decode cX7_ask 122 = .ok (.aload_n 0, 1) := by decide +kernel
theorem dX7_ask_123 : decode cX7_ask 123 = .ok (.getfield 7, 3) := by decide +kernel
theorem dX7_ask_126 : decode cX7_ask 126 = .ok (.iload_n 1, 1) := by decide +kernel
theorem dX7_ask_127 : decode cX7_ask 127 = .ok (.baload, 1) := by decide +kernel
theorem dX7_ask_128 : decode cX7_ask 128 = .ok (.ifCond .eq 6, 3) := by decide +kernel
theorem dX7_ask_131 : decode cX7_ask 131 = .ok (.ldc 141, 2) := by decide +kernel
theorem dX7_ask_133 : decode cX7_ask 133 = .ok (.ireturn, 1) := by decide +kernel
theorem dX7_ask_134 : decode cX7_ask 134 = .ok (.aload_n 0, 1) := by decide +kernel
theorem dX7_ask_135 : decode cX7_ask 135 = .ok (.getfield 106, 3) := by decide +kernel
theorem dX7_ask_138 : decode cX7_ask 138 = .ok (.sipush 300, 3) := by decide +kernel
theorem dX7_ask_141 : decode cX7_ask 141 = .ok (.if_icmp .eq 11, 3) := by decide +kernel
theorem dX7_ask_144 : decode cX7_ask 144 = .ok (.aload_n 0, 1) := by decide +kernel
theorem dX7_ask_145 : decode cX7_ask 145 = .ok (.iload_n 1, 1) := by decide +kernel
theorem dX7_ask_146 : decode cX7_ask 146 = .ok (.invokevirtual 142, 3) := by decide +kernel
theorem dX7_ask_149 : decode cX7_ask 149 = .ok (.ifCond .eq 6, 3) := by decide +kernel
theorem dX7_ask_152 : decode cX7_ask 152 = .ok (.ldc 146, 2) := by decide +kernel
theorem dX7_ask_154 : decode cX7_ask 154 = .ok (.ireturn, 1) := by decide +kernel
theorem dX7_ask_155 : decode cX7_ask 155 = .ok (.aload_n 0, 1) := by decide +kernel
theorem dX7_ask_156 : decode cX7_ask 156 = .ok (.iload_n 1, 1) := by decide +kernel
theorem dX7_ask_157 : decode cX7_ask 157 = .ok (.iload_n 2, 1) := by decide +kernel
theorem dX7_ask_158 : decode cX7_ask 158 = .ok (.iload_n 3, 1) := by decide +kernel
theorem dX7_ask_159 : decode cX7_ask 159 = .ok (.iload 4, 2) := by decide +kernel
theorem dX7_ask_161 : decode cX7_ask 161 = .ok (.iload 5, 2) := by decide +kernel
theorem dX7_ask_163 : decode cX7_ask 163 = .ok (.iload 6, 2) := by decide +kernel
theorem dX7_ask_165 : decode cX7_ask 165 = .ok (.iload 7, 2) := by decide +kernel
theorem dX7_ask_167 : decode cX7_ask 167 = .ok (.iconst (-1), 1) := by decide +kernel
theorem dX7_ask_168 : decode cX7_ask 168 = .ok (.invokevirtual 147, 3) := by decide +kernel
theorem dX7_ask_171 : decode cX7_ask 171 = .ok (.istore 8, 2) := by decide +kernel
theorem dX7_ask_173 : decode cX7_ask 173 = .ok (.aload_n 0, 1) := by decide +kernel
theorem dX7_ask_174 : decode cX7_ask 174 = .ok (.iload 8, 2) := by decide +kernel
theorem dX7_ask_176 : decode cX7_ask 176 = .ok (.iconst 0, 1) := by decide +kernel
theorem dX7_ask_177 : decode cX7_ask 177 = .ok (.lconst 0, 1) := by decide +kernel
theorem dX7_ask_178 : decode cX7_ask 178 = .ok (.invokevirtual 151, 3) := by decide +kernel
theorem dX7_ask_181 : decode cX7_ask 181 = .ok (.iload 8, 2) := by decide +kernel
theorem dX7_ask_183 : decode cX7_ask 183 = .ok (.ireturn, 1) := by decide +kernel
theorem dX7_again_0 : decode cX7_again 0 = .ok (.aload_n 0, 1) := by decide +kernel
theorem dX7_again_1 : decode cX7_again 1 = .ok (.iload_n 1, 1) := by decide +kernel
theorem dX7_again_2 : decode cX7_again 2 = .ok (.invokevirtual 155, 3) := by decide +kernel
theorem dX7_again_5 : decode cX7_again 5 = .ok (.ifCond .ne 6, 3) := by decide +kernel
theorem dX7_again_8 : decode cX7_again 8 = .ok (.ldc 140, 2) := by decide +kernel
theorem dX7_again_10 : decode cX7_again 10 = .ok (.ireturn, 1) := by decide +kernel
theorem dX7_again_11 : decode cX7_again 11 = .ok (.aload_n 0, 1) := by decide +kernel
theorem dX7_again_12 : decode cX7_again 12 = .ok (.getfield 51, 3) := by decide +kernel
theorem dX7_again_15 : decode cX7_again 15 = .ok (.iload_n 1, 1) := by decide +kernel
theorem dX7_again_16 : decode cX7_again 16 = .ok (.iaload, 1) := by decide +kernel
theorem dX7_again_17 : decode cX7_again 17 = .ok (.ifCond .ne 17, 3) := by decide +kernel
theorem dX7_again_20 : decode cX7_again 20 = .ok (.aload_n 0, 1) := by decide +kernel
theorem dX7_again_21 : decode cX7_again 21 = .ok (.getfield 7, 3) := by decide +kernel
theorem dX7_again_24 : decode cX7_again 24 = .ok (.aload_n 0, 1) := by decide +kernel
theorem dX7_again_25 : decode cX7_again 25 = .ok (.getfield 24, 3) := by decide +kernel
theorem dX7_again_28 : decode cX7_again 28 = .ok (.iload_n 1, 1) := by decide +kernel
theorem dX7_again_29 : decode cX7_again 29 = .ok (.iaload, 1) := by decide +kernel
theorem dX7_again_30 : decode cX7_again 30 = .ok (.baload, 1) := by decide +kernel
theorem dX7_again_31 : decode cX7_again 31 = .ok (.ifCond .eq 6, 3) := by decide +kernel
theorem dX7_again_34 : decode cX7_again 34 = .ok (.ldc 141, 2) := by decide +kernel
theorem dX7_again_36 : decode cX7_again 36 = .ok (.ireturn, 1) := by decide +kernel
theorem dX7_again_37 : decode cX7_again 37 = .ok (.aload_n 0, 1) := by decide +kernel
theorem dX7_again_38 : decode cX7_again 38 = .ok (.getfield 124, 3) := by decide +kernel
theorem dX7_again_41 : decode cX7_again 41 = .ok (.bipush 120, 2) := by decide +kernel
theorem dX7_again_43 : decode cX7_again 43 = .ok (.if_icmp .ne 6, 3) := by decide +kernel
theorem dX7_again_46 : decode cX7_again 46 = .ok (.ldc 146, 2) := by decide +kernel
theorem dX7_again_48 : decode cX7_again 48 = .ok (.ireturn, 1) := by decide +kernel
theorem dX7_again_49 : decode cX7_again 49 = .ok (.aload_n 0, 1) := by decide +kernel
theorem dX7_again_50 : decode cX7_again 50 = .ok (.iload_n 1, 1) := by decide +kernel
theorem dX7_again_51 : decode cX7_again 51 = .ok (.iconst 0, 1) := by decide +kernel
theorem dX7_again_52 : decode cX7_again 52 = .ok (.lconst 0, 1) := by decide +kernel
theorem dX7_again_53 : decode cX7_again 53 = .ok (.invokevirtual 151, 3) := by decide +kernel
theorem dX7_again_56 : decode cX7_again 56 = .ok (.aload_n 0, 1) := by decide +kernel
theorem dX7_again_57 : decode cX7_again 57 = .ok (.getfield 124, 3) := by decide +kernel
theorem dX7_again_60 : decode cX7_again 60 = .ok (.ireturn, 1) := by decide +kernel
theorem dX7_told_0 : decode cX7_told 0 = .ok (.aload_n 0, 1) := by decide +kernel
theorem dX7_told_1 : decode cX7_told 1 = .ok (.iload_n 1, 1) := by decide +kernel
theorem dX7_told_2 : decode cX7_told 2 = .ok (.invokevirtual 155, 3) := by decide +kernel
theorem dX7_told_5 : decode cX7_told 5 = .ok (.ifCond .ne 6, 3) := by decide +kernel
theorem dX7_told_8 : decode cX7_told 8 = .ok (.ldc 140, 2) := by decide +kernel
theorem dX7_told_10 : decode cX7_told 10 = .ok (.ireturn, 1) := by decide +kernel
theorem dX7_told_11 : decode cX7_told 11 = .ok (.iload_n 2, 1) := by decide +kernel
theorem dX7_told_12 : decode cX7_told 12 = .ok (.tableswitch 104 0 7 #[48, 55, 62, 69, 76, 83, 90, 97], 48) := by decide +kernel
theorem dX7_told_60 : decode cX7_told 60 = .ok (.aload_n 0, 1) := by decide +kernel
theorem dX7_told_61 : decode cX7_told 61 = .ok (.getfield 24, 3) := by decide +kernel
theorem dX7_told_64 : decode cX7_told 64 = .ok (.iload_n 1, 1) := by decide +kernel
theorem dX7_told_65 : decode cX7_told 65 = .ok (.iaload, 1) := by decide +kernel
theorem dX7_told_66 : decode cX7_told 66 = .ok (.ireturn, 1) := by decide +kernel
theorem dX7_told_67 : decode cX7_told 67 = .ok (.aload_n 0, 1) := by decide +kernel
theorem dX7_told_68 : decode cX7_told 68 = .ok (.getfield 27, 3) := by decide +kernel
theorem dX7_told_71 : decode cX7_told 71 = .ok (.iload_n 1, 1) := by decide +kernel
theorem dX7_told_72 : decode cX7_told 72 = .ok (.iaload, 1) := by decide +kernel
theorem dX7_told_73 : decode cX7_told 73 = .ok (.ireturn, 1) := by decide +kernel
theorem dX7_told_74 : decode cX7_told 74 = .ok (.aload_n 0, 1) := by decide +kernel
theorem dX7_told_75 : decode cX7_told 75 = .ok (.getfield 30, 3) := by decide +kernel
theorem dX7_told_78 : decode cX7_told 78 = .ok (.iload_n 1, 1) := by decide +kernel
theorem dX7_told_79 : decode cX7_told 79 = .ok (.iaload, 1) := by decide +kernel
theorem dX7_told_80 : decode cX7_told 80 = .ok (.ireturn, 1) := by decide +kernel
theorem dX7_told_81 : decode cX7_told 81 = .ok (.aload_n 0, 1) := by decide +kernel
theorem dX7_told_82 : decode cX7_told 82 = .ok (.getfield 33, 3) := by decide +kernel
theorem dX7_told_85 : decode cX7_told 85 = .ok (.iload_n 1, 1) := by decide +kernel
theorem dX7_told_86 : decode cX7_told 86 = .ok (.iaload, 1) := by decide +kernel
theorem dX7_told_87 : decode cX7_told 87 = .ok (.ireturn, 1) := by decide +kernel
theorem dX7_told_88 : decode cX7_told 88 = .ok (.aload_n 0, 1) := by decide +kernel
theorem dX7_told_89 : decode cX7_told 89 = .ok (.getfield 36, 3) := by decide +kernel
theorem dX7_told_92 : decode cX7_told 92 = .ok (.iload_n 1, 1) := by decide +kernel
theorem dX7_told_93 : decode cX7_told 93 = .ok (.iaload, 1) := by decide +kernel
theorem dX7_told_94 : decode cX7_told 94 = .ok (.ireturn, 1) := by decide +kernel
theorem dX7_told_95 : decode cX7_told 95 = .ok (.aload_n 0, 1) := by decide +kernel
theorem dX7_told_96 : decode cX7_told 96 = .ok (.getfield 51, 3) := by decide +kernel
theorem dX7_told_99 : decode cX7_told 99 = .ok (.iload_n 1, 1) := by decide +kernel
theorem dX7_told_100 : decode cX7_told 100 = .ok (.iaload, 1) := by decide +kernel
theorem dX7_told_101 : decode cX7_told 101 = .ok (.ireturn, 1) := by decide +kernel
theorem dX7_told_102 : decode cX7_told 102 = .ok (.aload_n 0, 1) := by decide +kernel
theorem dX7_told_103 : decode cX7_told 103 = .ok (.getfield 57, 3) := by decide +kernel
theorem dX7_told_106 : decode cX7_told 106 = .ok (.iload_n 1, 1) := by decide +kernel
theorem dX7_told_107 : decode cX7_told 107 = .ok (.iaload, 1) := by decide +kernel
theorem dX7_told_108 : decode cX7_told 108 = .ok (.ireturn, 1) := by decide +kernel
theorem dX7_told_109 : decode cX7_told 109 = .ok (.aload_n 0, 1) := by decide +kernel
theorem dX7_told_110 : decode cX7_told 110 = .ok (.getfield 60, 3) := by decide +kernel
theorem dX7_told_113 : decode cX7_told 113 = .ok (.iload_n 1, 1) := by decide +kernel
theorem dX7_told_114 : decode cX7_told 114 = .ok (.iaload, 1) := by decide +kernel
theorem dX7_told_115 : decode cX7_told 115 = .ok (.ireturn, 1) := by decide +kernel
theorem dX7_told_116 : decode cX7_told 116 = .ok (.ldc 140, 2) := by decide +kernel
theorem dX7_told_118 : decode cX7_told 118 = .ok (.ireturn, 1) := by decide +kernel
theorem dX7_answer_0 : decode cX7_answer 0 = .ok (.aload_n 0, 1) := by decide +kernel
theorem dX7_answer_1 : decode cX7_answer 1 = .ok (.iload_n 1, 1) := by decide +kernel
theorem dX7_answer_2 : decode cX7_answer 2 = .ok (.invokevirtual 155, 3) := by decide +kernel
theorem dX7_answer_5 : decode cX7_answer 5 = .ok (.ifCond .ne 9, 3) := by decide +kernel
theorem dX7_answer_8 : decode cX7_answer 8 = .ok (.ldc2_w 158, 3) := by decide +kernel
theorem dX7_answer_11 : decode cX7_answer 11 = .ok (.goto 25, 3) := by decide +kernel
theorem dX7_answer_14 : decode cX7_answer 14 = .ok (.aload_n 0, 1) := by decide +kernel
theorem dX7_answer_15 : decode cX7_answer 15 = .ok (.getfield 51, 3) := by decide +kernel
theorem dX7_answer_18 : decode cX7_answer 18 = .ok (.iload_n 1, 1) := by decide +kernel
theorem dX7_answer_19 : decode cX7_answer 19 = .ok (.iaload, 1) := by decide +kernel
theorem dX7_answer_20 : decode cX7_answer 20 = .ok (.iconst 1, 1) := by decide +kernel
theorem dX7_answer_21 : decode cX7_answer 21 = .ok (.if_icmp .eq 9, 3) := by decide +kernel
theorem dX7_answer_24 : decode cX7_answer 24 = .ok (.ldc2_w 160, 3) := by decide +kernel
theorem dX7_answer_27 : decode cX7_answer 27 = .ok (.goto 9, 3) := by decide +kernel
theorem dX7_answer_30 : decode cX7_answer 30 = .ok (.aload_n 0, 1) := by decide +kernel
theorem dX7_answer_31 : decode cX7_answer 31 = .ok (.getfield 54, 3) := by decide +kernel
theorem dX7_answer_34 : decode cX7_answer 34 = .ok (.iload_n 1, 1) := by decide +kernel
theorem dX7_answer_35 : decode cX7_answer 35 = .ok (.laload, 1) := by decide +kernel
theorem dX7_answer_36 : decode cX7_answer 36 = .ok (.lreturn, 1) := by decide +kernel
theorem dX7_name_0 : decode cX7_name 0 = .ok (.iload_n 1, 1) := by decide +kernel
theorem dX7_name_1 : decode cX7_name 1 = .ok (.i2l, 1) := by decide +kernel
theorem dX7_name_2 : decode cX7_name 2 = .ok (.lconst 0, 1) := by decide +kernel
theorem dX7_name_3 : decode cX7_name 3 = .ok (.ldc2_w 162, 3) := by decide +kernel
theorem dX7_name_6 : decode cX7_name 6 = .ok (.invokestatic 109, 3) := by decide +kernel
theorem dX7_name_9 : decode cX7_name 9 = .ok (.ifCond .eq 15, 3) := by decide +kernel
theorem dX7_name_12 : decode cX7_name 12 = .ok (.iload_n 2, 1) := by decide +kernel
theorem dX7_name_13 : decode cX7_name 13 = .ok (.i2l, 1) := by decide +kernel
theorem dX7_name_14 : decode cX7_name 14 = .ok (.lconst 0, 1) := by decide +kernel
theorem dX7_name_15 : decode cX7_name 15 = .ok (.ldc2_w 164, 3) := by decide +kernel
theorem dX7_name_18 : decode cX7_name 18 = .ok (.invokestatic 109, 3) := by decide +kernel
theorem dX7_name_21 : decode cX7_name 21 = .ok (.ifCond .ne 6, 3) := by decide +kernel
theorem dX7_name_24 : decode cX7_name 24 = .ok (.ldc 140, 2) := by decide +kernel
theorem dX7_name_26 : decode cX7_name 26 = .ok (.ireturn, 1) := by decide +kernel
theorem dX7_name_27 : decode cX7_name 27 = .ok (.iload_n 2, 1) := by decide +kernel
theorem dX7_name_28 : decode cX7_name 28 = .ok (.ifCond .ne 11, 3) := by decide +kernel
theorem dX7_name_31 : decode cX7_name 31 = .ok (.aload_n 0, 1) := by decide +kernel
theorem dX7_name_32 : decode cX7_name 32 = .ok (.iload_n 1, 1) := by decide +kernel
theorem dX7_name_33 : decode cX7_name 33 = .ok (.invokevirtual 113, 3) := by decide +kernel
theorem dX7_name_36 : decode cX7_name 36 = .ok (.goto 23, 3) := by decide +kernel
theorem dX7_name_39 : decode cX7_name 39 = .ok (.iload_n 2, 1) := by decide +kernel
theorem dX7_name_40 : decode cX7_name 40 = .ok (.iconst 1, 1) := by decide +kernel
theorem dX7_name_41 : decode cX7_name 41 = .ok (.if_icmp .ne 12, 3) := by decide +kernel
theorem dX7_name_44 : decode cX7_name 44 = .ok (.aload_n 0, 1) := by decide +kernel
theorem dX7_name_45 : decode cX7_name 45 = .ok (.getfield 13, 3) := by decide +kernel
theorem dX7_name_48 : decode cX7_name 48 = .ok (.iload_n 1, 1) := by decide +kernel
theorem dX7_name_49 : decode cX7_name 49 = .ok (.iaload, 1) := by decide +kernel
theorem dX7_name_50 : decode cX7_name 50 = .ok (.goto 9, 3) := by decide +kernel
theorem dX7_name_53 : decode cX7_name 53 = .ok (.aload_n 0, 1) := by decide +kernel
theorem dX7_name_54 : decode cX7_name 54 = .ok (.getfield 17, 3) := by decide +kernel
theorem dX7_name_57 : decode cX7_name 57 = .ok (.iload_n 1, 1) := by decide +kernel
theorem dX7_name_58 : decode cX7_name 58 = .ok (.iaload, 1) := by decide +kernel
theorem dX7_name_59 : decode cX7_name 59 = .ok (.ireturn, 1) := by decide +kernel
theorem dX7_findRecord_0 : decode cX7_findRecord 0 = .ok (.iconst 0, 1) := by decide +kernel
theorem dX7_findRecord_1 : decode cX7_findRecord 1 = .ok (.istore_n 3, 1) := by decide +kernel
theorem dX7_findRecord_2 : decode cX7_findRecord 2 = .ok (.iload_n 3, 1) := by decide +kernel
theorem dX7_findRecord_3 : decode cX7_findRecord 3 = .ok (.aload_n 0, 1) := by decide +kernel
theorem dX7_findRecord_4 : decode cX7_findRecord 4 = .ok (.getfield 166, 3) := by decide +kernel
theorem dX7_findRecord_7 : decode cX7_findRecord 7 = .ok (.if_icmp .ge 31, 3) := by decide +kernel
theorem dX7_findRecord_10 : decode cX7_findRecord 10 = .ok (.aload_n 0, 1) := by decide +kernel
theorem dX7_findRecord_11 : decode cX7_findRecord 11 = .ok (.getfield 87, 3) := by decide +kernel
theorem dX7_findRecord_14 : decode cX7_findRecord 14 = .ok (.iload_n 3, 1) := by decide +kernel
theorem dX7_findRecord_15 : decode cX7_findRecord 15 = .ok (.iaload, 1) := by decide +kernel
theorem dX7_findRecord_16 : decode cX7_findRecord 16 = .ok (.iload_n 1, 1) := by decide +kernel
theorem dX7_findRecord_17 : decode cX7_findRecord 17 = .ok (.if_icmp .ne 15, 3) := by decide +kernel
theorem dX7_findRecord_20 : decode cX7_findRecord 20 = .ok (.aload_n 0, 1) := by decide +kernel
theorem dX7_findRecord_21 : decode cX7_findRecord 21 = .ok (.getfield 90, 3) := by decide +kernel
theorem dX7_findRecord_24 : decode cX7_findRecord 24 = .ok (.iload_n 3, 1) := by decide +kernel
theorem dX7_findRecord_25 : decode cX7_findRecord 25 = .ok (.iaload, 1) := by decide +kernel
theorem dX7_findRecord_26 : decode cX7_findRecord 26 = .ok (.iload_n 2, 1) := by decide +kernel
theorem dX7_findRecord_27 : decode cX7_findRecord 27 = .ok (.if_icmp .ne 5, 3) := by decide +kernel
theorem dX7_findRecord_30 : decode cX7_findRecord 30 = .ok (.iload_n 3, 1) := by decide +kernel
theorem dX7_findRecord_31 : decode cX7_findRecord 31 = .ok (.ireturn, 1) := by decide +kernel
theorem dX7_findRecord_32 : decode cX7_findRecord 32 = .ok (.iinc 3 1, 3) := by decide +kernel
theorem dX7_findRecord_35 : decode cX7_findRecord 35 = .ok (.goto (-33), 3) := by decide +kernel
theorem dX7_findRecord_38 : decode cX7_findRecord 38 = .ok (.iconst (-1), 1) := by decide +kernel
theorem dX7_findRecord_39 : decode cX7_findRecord 39 = .ok (.ireturn, 1) := by decide +kernel
theorem dX7_putRecord_0 : decode cX7_putRecord 0 = .ok (.aload_n 0, 1) := by decide +kernel
theorem dX7_putRecord_1 : decode cX7_putRecord 1 = .ok (.iload_n 1, 1) := by decide +kernel
theorem dX7_putRecord_2 : decode cX7_putRecord 2 = .ok (.iload_n 2, 1) := by decide +kernel
theorem dX7_putRecord_3 : decode cX7_putRecord 3 = .ok (.invokevirtual 169, 3) := by decide +kernel
theorem dX7_putRecord_6 : decode cX7_putRecord 6 = .ok (.istore 7, 2) := by decide +kernel
theorem dX7_putRecord_8 : decode cX7_putRecord 8 = .ok (.iload 7, 2) := by decide +kernel
theorem dX7_putRecord_10 : decode cX7_putRecord 10 = .ok (.ifCond .ge 19, 3) := by decide +kernel
theorem dX7_putRecord_13 : decode cX7_putRecord 13 = .ok (.aload_n 0, 1) := by decide +kernel
theorem dX7_putRecord_14 : decode cX7_putRecord 14 = .ok (.getfield 166, 3) := by decide +kernel
theorem dX7_putRecord_17 : decode cX7_putRecord 17 = .ok (.istore 7, 2) := by decide +kernel
theorem dX7_putRecord_19 : decode cX7_putRecord 19 = .ok (.aload_n 0, 1) := by decide +kernel
theorem dX7_putRecord_20 : decode cX7_putRecord 20 = .ok (.dup, 1) := by decide +kernel
theorem dX7_putRecord_21 : decode cX7_putRecord 21 = .ok (.getfield 166, 3) := by decide +kernel
theorem dX7_putRecord_24 : decode cX7_putRecord 24 = .ok (.iconst 1, 1) := by decide +kernel
theorem dX7_putRecord_25 : decode cX7_putRecord 25 = .ok (.iadd, 1) := by decide +kernel
theorem dX7_putRecord_26 : decode cX7_putRecord 26 = .ok (.putfield 166, 3) := by decide +kernel
theorem dX7_putRecord_29 : decode cX7_putRecord 29 = .ok (.aload_n 0, 1) := by decide +kernel
theorem dX7_putRecord_30 : decode cX7_putRecord 30 = .ok (.getfield 87, 3) := by decide +kernel
theorem dX7_putRecord_33 : decode cX7_putRecord 33 = .ok (.iload 7, 2) := by decide +kernel
theorem dX7_putRecord_35 : decode cX7_putRecord 35 = .ok (.iload_n 1, 1) := by decide +kernel
theorem dX7_putRecord_36 : decode cX7_putRecord 36 = .ok (.iastore, 1) := by decide +kernel
theorem dX7_putRecord_37 : decode cX7_putRecord 37 = .ok (.aload_n 0, 1) := by decide +kernel
theorem dX7_putRecord_38 : decode cX7_putRecord 38 = .ok (.getfield 90, 3) := by decide +kernel
theorem dX7_putRecord_41 : decode cX7_putRecord 41 = .ok (.iload 7, 2) := by decide +kernel
theorem dX7_putRecord_43 : decode cX7_putRecord 43 = .ok (.iload_n 2, 1) := by decide +kernel
theorem dX7_putRecord_44 : decode cX7_putRecord 44 = .ok (.iastore, 1) := by decide +kernel
theorem dX7_putRecord_45 : decode cX7_putRecord 45 = .ok (.aload_n 0, 1) := by decide +kernel
theorem dX7_putRecord_46 : decode cX7_putRecord 46 = .ok (.getfield 93, 3) := by decide +kernel
theorem dX7_putRecord_49 : decode cX7_putRecord 49 = .ok (.iload 7, 2) := by decide +kernel
theorem dX7_putRecord_51 : decode cX7_putRecord 51 = .ok (.iload_n 3, 1) := by decide +kernel
theorem dX7_putRecord_52 : decode cX7_putRecord 52 = .ok (.iastore, 1) := by decide +kernel
theorem dX7_putRecord_53 : decode cX7_putRecord 53 = .ok (.aload_n 0, 1) := by decide +kernel
theorem dX7_putRecord_54 : decode cX7_putRecord 54 = .ok (.getfield 96, 3) := by decide +kernel
theorem dX7_putRecord_57 : decode cX7_putRecord 57 = .ok (.iload 7, 2) := by decide +kernel
theorem dX7_putRecord_59 : decode cX7_putRecord 59 = .ok (.lload 4, 2) := by decide +kernel
theorem dX7_putRecord_61 : decode cX7_putRecord 61 = .ok (.lastore, 1) := by decide +kernel
theorem dX7_putRecord_62 : decode cX7_putRecord 62 = .ok (.aload_n 0, 1) := by decide +kernel
theorem dX7_putRecord_63 : decode cX7_putRecord 63 = .ok (.getfield 99, 3) := by decide +kernel
theorem dX7_putRecord_66 : decode cX7_putRecord 66 = .ok (.iload 7, 2) := by decide +kernel
theorem dX7_putRecord_68 : decode cX7_putRecord 68 = .ok (.iload 6, 2) := by decide +kernel
theorem dX7_putRecord_70 : decode cX7_putRecord 70 = .ok (.iastore, 1) := by decide +kernel
theorem dX7_putRecord_71 : decode cX7_putRecord 71 = .ok (.return_, 1) := by decide +kernel
theorem dX7_forget_0 : decode cX7_forget 0 = .ok (.iconst 0, 1) := by decide +kernel
theorem dX7_forget_1 : decode cX7_forget 1 = .ok (.istore_n 3, 1) := by decide +kernel
theorem dX7_forget_2 : decode cX7_forget 2 = .ok (.iconst 0, 1) := by decide +kernel
theorem dX7_forget_3 : decode cX7_forget 3 = .ok (.istore 4, 2) := by decide +kernel
theorem dX7_forget_5 : decode cX7_forget 5 = .ok (.iload 4, 2) := by decide +kernel
theorem dX7_forget_7 : decode cX7_forget 7 = .ok (.aload_n 0, 1) := by decide +kernel
theorem dX7_forget_8 : decode cX7_forget 8 = .ok (.getfield 166, 3) := by decide +kernel
theorem dX7_forget_11 : decode cX7_forget 11 = .ok (.if_icmp .ge 99, 3) := by decide +kernel
theorem dX7_forget_14 : decode cX7_forget 14 = .ok (.aload_n 0, 1) := by decide +kernel
theorem dX7_forget_15 : decode cX7_forget 15 = .ok (.getfield 87, 3) := by decide +kernel
theorem dX7_forget_18 : decode cX7_forget 18 = .ok (.iload 4, 2) := by decide +kernel
theorem dX7_forget_20 : decode cX7_forget 20 = .ok (.iaload, 1) := by decide +kernel
theorem dX7_forget_21 : decode cX7_forget 21 = .ok (.iload_n 1, 1) := by decide +kernel
theorem dX7_forget_22 : decode cX7_forget 22 = .ok (.if_icmp .ne 14, 3) := by decide +kernel
theorem dX7_forget_25 : decode cX7_forget 25 = .ok (.aload_n 0, 1) := by decide +kernel
theorem dX7_forget_26 : decode cX7_forget 26 = .ok (.getfield 90, 3) := by decide +kernel
theorem dX7_forget_29 : decode cX7_forget 29 = .ok (.iload 4, 2) := by decide +kernel
theorem dX7_forget_31 : decode cX7_forget 31 = .ok (.iaload, 1) := by decide +kernel
theorem dX7_forget_32 : decode cX7_forget 32 = .ok (.iload_n 2, 1) := by decide +kernel
theorem dX7_forget_33 : decode cX7_forget 33 = .ok (.if_icmp .lt 71, 3) := by decide +kernel
theorem dX7_forget_36 : decode cX7_forget 36 = .ok (.aload_n 0, 1) := by decide +kernel
theorem dX7_forget_37 : decode cX7_forget 37 = .ok (.getfield 87, 3) := by decide +kernel
theorem dX7_forget_40 : decode cX7_forget 40 = .ok (.iload_n 3, 1) := by decide +kernel
theorem dX7_forget_41 : decode cX7_forget 41 = .ok (.aload_n 0, 1) := by decide +kernel
theorem dX7_forget_42 : decode cX7_forget 42 = .ok (.getfield 87, 3) := by decide +kernel
theorem dX7_forget_45 : decode cX7_forget 45 = .ok (.iload 4, 2) := by decide +kernel
theorem dX7_forget_47 : decode cX7_forget 47 = .ok (.iaload, 1) := by decide +kernel
theorem dX7_forget_48 : decode cX7_forget 48 = .ok (.iastore, 1) := by decide +kernel
theorem dX7_forget_49 : decode cX7_forget 49 = .ok (.aload_n 0, 1) := by decide +kernel
theorem dX7_forget_50 : decode cX7_forget 50 = .ok (.getfield 90, 3) := by decide +kernel
theorem dX7_forget_53 : decode cX7_forget 53 = .ok (.iload_n 3, 1) := by decide +kernel
theorem dX7_forget_54 : decode cX7_forget 54 = .ok (.aload_n 0, 1) := by decide +kernel
theorem dX7_forget_55 : decode cX7_forget 55 = .ok (.getfield 90, 3) := by decide +kernel
theorem dX7_forget_58 : decode cX7_forget 58 = .ok (.iload 4, 2) := by decide +kernel
theorem dX7_forget_60 : decode cX7_forget 60 = .ok (.iaload, 1) := by decide +kernel
theorem dX7_forget_61 : decode cX7_forget 61 = .ok (.iastore, 1) := by decide +kernel
theorem dX7_forget_62 : decode cX7_forget 62 = .ok (.aload_n 0, 1) := by decide +kernel
theorem dX7_forget_63 : decode cX7_forget 63 = .ok (.getfield 93, 3) := by decide +kernel
theorem dX7_forget_66 : decode cX7_forget 66 = .ok (.iload_n 3, 1) := by decide +kernel
theorem dX7_forget_67 : decode cX7_forget 67 = .ok (.aload_n 0, 1) := by decide +kernel
theorem dX7_forget_68 : decode cX7_forget 68 = .ok (.getfield 93, 3) := by decide +kernel
theorem dX7_forget_71 : decode cX7_forget 71 = .ok (.iload 4, 2) := by decide +kernel
theorem dX7_forget_73 : decode cX7_forget 73 = .ok (.iaload, 1) := by decide +kernel
theorem dX7_forget_74 : decode cX7_forget 74 = .ok (.iastore, 1) := by decide +kernel
theorem dX7_forget_75 : decode cX7_forget 75 = .ok (.aload_n 0, 1) := by decide +kernel
theorem dX7_forget_76 : decode cX7_forget 76 = .ok (.getfield 96, 3) := by decide +kernel
theorem dX7_forget_79 : decode cX7_forget 79 = .ok (.iload_n 3, 1) := by decide +kernel
theorem dX7_forget_80 : decode cX7_forget 80 = .ok (.aload_n 0, 1) := by decide +kernel
theorem dX7_forget_81 : decode cX7_forget 81 = .ok (.getfield 96, 3) := by decide +kernel
theorem dX7_forget_84 : decode cX7_forget 84 = .ok (.iload 4, 2) := by decide +kernel
theorem dX7_forget_86 : decode cX7_forget 86 = .ok (.laload, 1) := by decide +kernel
theorem dX7_forget_87 : decode cX7_forget 87 = .ok (.lastore, 1) := by decide +kernel
theorem dX7_forget_88 : decode cX7_forget 88 = .ok (.aload_n 0, 1) := by decide +kernel
theorem dX7_forget_89 : decode cX7_forget 89 = .ok (.getfield 99, 3) := by decide +kernel
theorem dX7_forget_92 : decode cX7_forget 92 = .ok (.iload_n 3, 1) := by decide +kernel
theorem dX7_forget_93 : decode cX7_forget 93 = .ok (.aload_n 0, 1) := by decide +kernel
theorem dX7_forget_94 : decode cX7_forget 94 = .ok (.getfield 99, 3) := by decide +kernel
theorem dX7_forget_97 : decode cX7_forget 97 = .ok (.iload 4, 2) := by decide +kernel
theorem dX7_forget_99 : decode cX7_forget 99 = .ok (.iaload, 1) := by decide +kernel
theorem dX7_forget_100 : decode cX7_forget 100 = .ok (.iastore, 1) := by decide +kernel
theorem dX7_forget_101 : decode cX7_forget 101 = .ok (.iinc 3 1, 3) := by decide +kernel
theorem dX7_forget_104 : decode cX7_forget 104 = .ok (.iinc 4 1, 3) := by decide +kernel
theorem dX7_forget_107 : decode cX7_forget 107 = .ok (.goto (-102), 3) := by decide +kernel
theorem dX7_forget_110 : decode cX7_forget 110 = .ok (.aload_n 0, 1) := by decide +kernel
theorem dX7_forget_111 : decode cX7_forget 111 = .ok (.getfield 166, 3) := by decide +kernel
theorem dX7_forget_114 : decode cX7_forget 114 = .ok (.iload_n 3, 1) := by decide +kernel
theorem dX7_forget_115 : decode cX7_forget 115 = .ok (.isub, 1) := by decide +kernel
theorem dX7_forget_116 : decode cX7_forget 116 = .ok (.istore 4, 2) := by decide +kernel
theorem dX7_forget_118 : decode cX7_forget 118 = .ok (.aload_n 0, 1) := by decide +kernel
theorem dX7_forget_119 : decode cX7_forget 119 = .ok (.iload_n 3, 1) := by decide +kernel
theorem dX7_forget_120 : decode cX7_forget 120 = .ok (.putfield 166, 3) := by decide +kernel
theorem dX7_forget_123 : decode cX7_forget 123 = .ok (.iload 4, 2) := by decide +kernel
theorem dX7_forget_125 : decode cX7_forget 125 = .ok (.ireturn, 1) := by decide +kernel
theorem dX7_mayBe_0 : decode cX7_mayBe 0 = .ok (.lload_n 1, 1) := by decide +kernel
theorem dX7_mayBe_1 : decode cX7_mayBe 1 = .ok (.lconst 0, 1) := by decide +kernel
theorem dX7_mayBe_2 : decode cX7_mayBe 2 = .ok (.ldc2_w 173, 3) := by decide +kernel
theorem dX7_mayBe_5 : decode cX7_mayBe 5 = .ok (.invokestatic 109, 3) := by decide +kernel
theorem dX7_mayBe_8 : decode cX7_mayBe 8 = .ok (.ireturn, 1) := by decide +kernel
theorem dX7_done_0 : decode cX7_done 0 = .ok (.aload_n 0, 1) := by decide +kernel
theorem dX7_done_1 : decode cX7_done 1 = .ok (.iload_n 1, 1) := by decide +kernel
theorem dX7_done_2 : decode cX7_done 2 = .ok (.aload_n 0, 1) := by decide +kernel
theorem dX7_done_3 : decode cX7_done 3 = .ok (.getfield 30, 3) := by decide +kernel
theorem dX7_done_6 : decode cX7_done 6 = .ok (.iload_n 2, 1) := by decide +kernel
theorem dX7_done_7 : decode cX7_done 7 = .ok (.iaload, 1) := by decide +kernel
theorem dX7_done_8 : decode cX7_done 8 = .ok (.iconst 1, 1) := by decide +kernel
theorem dX7_done_9 : decode cX7_done 9 = .ok (.lload_n 3, 1) := by decide +kernel
theorem dX7_done_10 : decode cX7_done 10 = .ok (.iconst (-1), 1) := by decide +kernel
theorem dX7_done_11 : decode cX7_done 11 = .ok (.invokevirtual 175, 3) := by decide +kernel
theorem dX7_done_14 : decode cX7_done 14 = .ok (.aload_n 0, 1) := by decide +kernel
theorem dX7_done_15 : decode cX7_done 15 = .ok (.iload_n 2, 1) := by decide +kernel
theorem dX7_done_16 : decode cX7_done 16 = .ok (.iconst 1, 1) := by decide +kernel
theorem dX7_done_17 : decode cX7_done 17 = .ok (.lload_n 3, 1) := by decide +kernel
theorem dX7_done_18 : decode cX7_done 18 = .ok (.invokevirtual 151, 3) := by decide +kernel
theorem dX7_done_21 : decode cX7_done 21 = .ok (.return_, 1) := by decide +kernel
theorem dX7_work_0 : decode cX7_work 0 = .ok (.aload_n 0, 1) := by decide +kernel
theorem dX7_work_1 : decode cX7_work 1 = .ok (.getfield 24, 3) := by decide +kernel
theorem dX7_work_4 : decode cX7_work 4 = .ok (.iload_n 2, 1) := by decide +kernel
theorem dX7_work_5 : decode cX7_work 5 = .ok (.iaload, 1) := by decide +kernel
theorem dX7_work_6 : decode cX7_work 6 = .ok (.istore 5, 2) := by decide +kernel
theorem dX7_work_8 : decode cX7_work 8 = .ok (.bipush 10, 2) := by decide +kernel
theorem dX7_work_10 : decode cX7_work 10 = .ok (.iload_n 1, 1) := by decide +kernel
theorem dX7_work_11 : decode cX7_work 11 = .ok (.imul, 1) := by decide +kernel
theorem dX7_work_12 : decode cX7_work 12 = .ok (.iload 5, 2) := by decide +kernel
theorem dX7_work_14 : decode cX7_work 14 = .ok (.iadd, 1) := by decide +kernel
theorem dX7_work_15 : decode cX7_work 15 = .ok (.istore 6, 2) := by decide +kernel
theorem dX7_work_17 : decode cX7_work 17 = .ok (.aload_n 0, 1) := by decide +kernel
theorem dX7_work_18 : decode cX7_work 18 = .ok (.getfield 27, 3) := by decide +kernel
theorem dX7_work_21 : decode cX7_work 21 = .ok (.iload_n 2, 1) := by decide +kernel
theorem dX7_work_22 : decode cX7_work 22 = .ok (.iaload, 1) := by decide +kernel
theorem dX7_work_23 : decode cX7_work 23 = .ok (.aload_n 0, 1) := by decide +kernel
theorem dX7_work_24 : decode cX7_work 24 = .ok (.getfield 81, 3) := by decide +kernel
theorem dX7_work_27 : decode cX7_work 27 = .ok (.iload 6, 2) := by decide +kernel
theorem dX7_work_29 : decode cX7_work 29 = .ok (.iaload, 1) := by decide +kernel
theorem dX7_work_30 : decode cX7_work 30 = .ok (.if_icmp .ge 18, 3) := by decide +kernel
theorem dX7_work_33 : decode cX7_work 33 = .ok (.iload 4, 2) := by decide +kernel
theorem dX7_work_35 : decode cX7_work 35 = .ok (.ifCond .ne 12, 3) := by decide +kernel
theorem dX7_work_38 : decode cX7_work 38 = .ok (.aload_n 0, 1) := by decide +kernel
theorem dX7_work_39 : decode cX7_work 39 = .ok (.iload_n 2, 1) := by decide +kernel
theorem dX7_work_40 : decode cX7_work 40 = .ok (.iconst 1, 1) := by decide +kernel
theorem dX7_work_41 : decode cX7_work 41 = .ok (.ldc2_w 179, 3) := by decide +kernel
theorem dX7_work_44 : decode cX7_work 44 = .ok (.invokevirtual 151, 3) := by decide +kernel
theorem dX7_work_47 : decode cX7_work 47 = .ok (.return_, 1) := by decide +kernel
theorem dX7_work_48 : decode cX7_work 48 = .ok (.aload_n 0, 1) := by decide +kernel
theorem dX7_work_49 : decode cX7_work 49 = .ok (.getfield 27, 3) := by decide +kernel
theorem dX7_work_52 : decode cX7_work 52 = .ok (.iload_n 2, 1) := by decide +kernel
theorem dX7_work_53 : decode cX7_work 53 = .ok (.iaload, 1) := by decide +kernel
theorem dX7_work_54 : decode cX7_work 54 = .ok (.aload_n 0, 1) := by decide +kernel
theorem dX7_work_55 : decode cX7_work 55 = .ok (.getfield 81, 3) := by decide +kernel
theorem dX7_work_58 : decode cX7_work 58 = .ok (.iload 6, 2) := by decide +kernel
theorem dX7_work_60 : decode cX7_work 60 = .ok (.iaload, 1) := by decide +kernel
theorem dX7_work_61 : decode cX7_work 61 = .ok (.if_icmp .le 34, 3) := by decide +kernel
theorem dX7_work_64 : decode cX7_work 64 = .ok (.aload_n 0, 1) := by decide +kernel
theorem dX7_work_65 : decode cX7_work 65 = .ok (.getfield 81, 3) := by decide +kernel
theorem dX7_work_68 : decode cX7_work 68 = .ok (.iload 6, 2) := by decide +kernel
theorem dX7_work_70 : decode cX7_work 70 = .ok (.aload_n 0, 1) := by decide +kernel
theorem dX7_work_71 : decode cX7_work 71 = .ok (.getfield 27, 3) := by decide +kernel
theorem dX7_work_74 : decode cX7_work 74 = .ok (.iload_n 2, 1) := by decide +kernel
theorem dX7_work_75 : decode cX7_work 75 = .ok (.iaload, 1) := by decide +kernel
theorem dX7_work_76 : decode cX7_work 76 = .ok (.iastore, 1) := by decide +kernel
theorem dX7_work_77 : decode cX7_work 77 = .ok (.aload_n 0, 1) := by decide +kernel
theorem dX7_work_78 : decode cX7_work 78 = .ok (.getfield 84, 3) := by decide +kernel
theorem dX7_work_81 : decode cX7_work 81 = .ok (.iload 6, 2) := by decide +kernel
theorem dX7_work_83 : decode cX7_work 83 = .ok (.iconst 1, 1) := by decide +kernel
theorem dX7_work_84 : decode cX7_work 84 = .ok (.iastore, 1) := by decide +kernel
theorem dX7_work_85 : decode cX7_work 85 = .ok (.aload_n 0, 1) := by decide +kernel
theorem dX7_work_86 : decode cX7_work 86 = .ok (.iload 6, 2) := by decide +kernel
theorem dX7_work_88 : decode cX7_work 88 = .ok (.ldc 181, 2) := by decide +kernel
theorem dX7_work_90 : decode cX7_work 90 = .ok (.invokevirtual 182, 3) := by decide +kernel
theorem dX7_work_93 : decode cX7_work 93 = .ok (.istore 7, 2) := by decide +kernel
theorem dX7_work_95 : decode cX7_work 95 = .ok (.iload_n 3, 1) := by decide +kernel
theorem dX7_work_96 : decode cX7_work 96 = .ok (.aload_n 0, 1) := by decide +kernel
theorem dX7_work_97 : decode cX7_work 97 = .ok (.getfield 84, 3) := by decide +kernel
theorem dX7_work_100 : decode cX7_work 100 = .ok (.iload 6, 2) := by decide +kernel
theorem dX7_work_102 : decode cX7_work 102 = .ok (.iaload, 1) := by decide +kernel
theorem dX7_work_103 : decode cX7_work 103 = .ok (.if_icmp .le 20, 3) := by decide +kernel
theorem dX7_work_106 : decode cX7_work 106 = .ok (.aload_n 0, 1) := by decide +kernel
theorem dX7_work_107 : decode cX7_work 107 = .ok (.getfield 84, 3) := by decide +kernel
theorem dX7_work_110 : decode cX7_work 110 = .ok (.iload 6, 2) := by decide +kernel
theorem dX7_work_112 : decode cX7_work 112 = .ok (.iload_n 3, 1) := by decide +kernel
theorem dX7_work_113 : decode cX7_work 113 = .ok (.iastore, 1) := by decide +kernel
theorem dX7_work_114 : decode cX7_work 114 = .ok (.aload_n 0, 1) := by decide +kernel
theorem dX7_work_115 : decode cX7_work 115 = .ok (.iload 6, 2) := by decide +kernel
theorem dX7_work_117 : decode cX7_work 117 = .ok (.iload_n 3, 1) := by decide +kernel
theorem dX7_work_118 : decode cX7_work 118 = .ok (.invokevirtual 182, 3) := by decide +kernel
theorem dX7_work_121 : decode cX7_work 121 = .ok (.istore 7, 2) := by decide +kernel
theorem dX7_work_123 : decode cX7_work 123 = .ok (.iload 4, 2) := by decide +kernel
theorem dX7_work_125 : decode cX7_work 125 = .ok (.ifCond .ne 19, 3) := by decide +kernel
theorem dX7_work_128 : decode cX7_work 128 = .ok (.aload_n 0, 1) := by decide +kernel
theorem dX7_work_129 : decode cX7_work 129 = .ok (.getfield 30, 3) := by decide +kernel
theorem dX7_work_132 : decode cX7_work 132 = .ok (.iload_n 2, 1) := by decide +kernel
theorem dX7_work_133 : decode cX7_work 133 = .ok (.iaload, 1) := by decide +kernel
theorem dX7_work_134 : decode cX7_work 134 = .ok (.aload_n 0, 1) := by decide +kernel
theorem dX7_work_135 : decode cX7_work 135 = .ok (.getfield 84, 3) := by decide +kernel
theorem dX7_work_138 : decode cX7_work 138 = .ok (.iload 6, 2) := by decide +kernel
theorem dX7_work_140 : decode cX7_work 140 = .ok (.iaload, 1) := by decide +kernel
theorem dX7_work_141 : decode cX7_work 141 = .ok (.if_icmp .ge 4, 3) := by decide +kernel
theorem dX7_work_144 : decode cX7_work 144 = .ok (.return_, 1) := by decide +kernel
theorem dX7_work_145 : decode cX7_work 145 = .ok (.aload_n 0, 1) := by decide +kernel
theorem dX7_work_146 : decode cX7_work 146 = .ok (.iload 6, 2) := by decide +kernel
theorem dX7_work_148 : decode cX7_work 148 = .ok (.aload_n 0, 1) := by decide +kernel
theorem dX7_work_149 : decode cX7_work 149 = .ok (.getfield 30, 3) := by decide +kernel
theorem dX7_work_152 : decode cX7_work 152 = .ok (.iload_n 2, 1) := by decide +kernel
theorem dX7_work_153 : decode cX7_work 153 = .ok (.iaload, 1) := by decide +kernel
theorem dX7_work_154 : decode cX7_work 154 = .ok (.invokevirtual 169, 3) := by decide +kernel
theorem dX7_work_157 : decode cX7_work 157 = .ok (.istore 7, 2) := by decide +kernel
theorem dX7_work_159 : decode cX7_work 159 = .ok (.bipush 6, 2) := by decide +kernel
theorem dX7_work_161 : decode cX7_work 161 = .ok (.iload_n 1, 1) := by decide +kernel
theorem dX7_work_162 : decode cX7_work 162 = .ok (.imul, 1) := by decide +kernel
theorem dX7_work_163 : decode cX7_work 163 = .ok (.aload_n 0, 1) := by decide +kernel
theorem dX7_work_164 : decode cX7_work 164 = .ok (.getfield 39, 3) := by decide +kernel
theorem dX7_work_167 : decode cX7_work 167 = .ok (.iload_n 2, 1) := by decide +kernel
theorem dX7_work_168 : decode cX7_work 168 = .ok (.iaload, 1) := by decide +kernel
theorem dX7_work_169 : decode cX7_work 169 = .ok (.iadd, 1) := by decide +kernel
theorem dX7_work_170 : decode cX7_work 170 = .ok (.istore 8, 2) := by decide +kernel
theorem dX7_work_172 : decode cX7_work 172 = .ok (.iload 7, 2) := by decide +kernel
theorem dX7_work_174 : decode cX7_work 174 = .ok (.ifCond .lt 78, 3) := by decide +kernel
theorem dX7_work_177 : decode cX7_work 177 = .ok (.aload_n 0, 1) := by decide +kernel
theorem dX7_work_178 : decode cX7_work 178 = .ok (.getfield 93, 3) := by decide +kernel
theorem dX7_work_181 : decode cX7_work 181 = .ok (.iload 7, 2) := by decide +kernel
theorem dX7_work_183 : decode cX7_work 183 = .ok (.iaload, 1) := by decide +kernel
theorem dX7_work_184 : decode cX7_work 184 = .ok (.iconst 2, 1) := by decide +kernel
theorem dX7_work_185 : decode cX7_work 185 = .ok (.if_icmp .eq 36, 3) := by decide +kernel
theorem dX7_work_188 : decode cX7_work 188 = .ok (.aload_n 0, 1) := by decide +kernel
theorem dX7_work_189 : decode cX7_work 189 = .ok (.iload_n 2, 1) := by decide +kernel
theorem dX7_work_190 : decode cX7_work 190 = .ok (.iconst 1, 1) := by decide +kernel
theorem dX7_work_191 : decode cX7_work 191 = .ok (.aload_n 0, 1) := by decide +kernel
theorem dX7_work_192 : decode cX7_work 192 = .ok (.getfield 93, 3) := by decide +kernel
theorem dX7_work_195 : decode cX7_work 195 = .ok (.iload 7, 2) := by decide +kernel
theorem dX7_work_197 : decode cX7_work 197 = .ok (.iaload, 1) := by decide +kernel
theorem dX7_work_198 : decode cX7_work 198 = .ok (.iconst 1, 1) := by decide +kernel
theorem dX7_work_199 : decode cX7_work 199 = .ok (.if_icmp .ne 13, 3) := by decide +kernel
theorem dX7_work_202 : decode cX7_work 202 = .ok (.aload_n 0, 1) := by decide +kernel
theorem dX7_work_203 : decode cX7_work 203 = .ok (.getfield 96, 3) := by decide +kernel
theorem dX7_work_206 : decode cX7_work 206 = .ok (.iload 7, 2) := by decide +kernel
theorem dX7_work_208 : decode cX7_work 208 = .ok (.laload, 1) := by decide +kernel
theorem dX7_work_209 : decode cX7_work 209 = .ok (.goto 6, 3) := by decide +kernel
theorem dX7_work_212 : decode cX7_work 212 = .ok (.ldc2_w 185, 3) := by decide +kernel
theorem dX7_work_215 : decode cX7_work 215 = .ok (.invokevirtual 151, 3) := by decide +kernel
theorem dX7_work_218 : decode cX7_work 218 = .ok (.goto 89, 3) := by decide +kernel
theorem dX7_work_221 : decode cX7_work 221 = .ok (.aload_n 0, 1) := by decide +kernel
theorem dX7_work_222 : decode cX7_work 222 = .ok (.getfield 51, 3) := by decide +kernel
theorem dX7_work_225 : decode cX7_work 225 = .ok (.aload_n 0, 1) := by decide +kernel
theorem dX7_work_226 : decode cX7_work 226 = .ok (.getfield 99, 3) := by decide +kernel
theorem dX7_work_229 : decode cX7_work 229 = .ok (.iload 7, 2) := by decide +kernel
theorem dX7_work_231 : decode cX7_work 231 = .ok (.iaload, 1) := by decide +kernel
theorem dX7_work_232 : decode cX7_work 232 = .ok (.iaload, 1) := by decide +kernel
theorem dX7_work_233 : decode cX7_work 233 = .ok (.ifCond .ne 74, 3) := by decide +kernel
theorem dX7_work_236 : decode cX7_work 236 = .ok (.aload_n 0, 1) := by decide +kernel
theorem dX7_work_237 : decode cX7_work 237 = .ok (.aload_n 0, 1) := by decide +kernel
theorem dX7_work_238 : decode cX7_work 238 = .ok (.getfield 99, 3) := by decide +kernel
theorem dX7_work_241 : decode cX7_work 241 = .ok (.iload 7, 2) := by decide +kernel
theorem dX7_work_243 : decode cX7_work 243 = .ok (.iaload, 1) := by decide +kernel
theorem dX7_work_244 : decode cX7_work 244 = .ok (.iconst 0, 1) := by decide +kernel
theorem dX7_work_245 : decode cX7_work 245 = .ok (.lconst 0, 1) := by decide +kernel
theorem dX7_work_246 : decode cX7_work 246 = .ok (.invokevirtual 151, 3) := by decide +kernel
theorem dX7_work_249 : decode cX7_work 249 = .ok (.goto 58, 3) := by decide +kernel
theorem dX7_work_252 : decode cX7_work 252 = .ok (.aload_n 0, 1) := by decide +kernel
theorem dX7_work_253 : decode cX7_work 253 = .ok (.getfield 36, 3) := by decide +kernel
theorem dX7_work_256 : decode cX7_work 256 = .ok (.iload_n 2, 1) := by decide +kernel
theorem dX7_work_257 : decode cX7_work 257 = .ok (.iaload, 1) := by decide +kernel
theorem dX7_work_258 : decode cX7_work 258 = .ok (.ifCond .ne 19, 3) := by decide +kernel
theorem dX7_work_261 : decode cX7_work 261 = .ok (.aload_n 0, 1) := by decide +kernel
theorem dX7_work_262 : decode cX7_work 262 = .ok (.iload_n 2, 1) := by decide +kernel
theorem dX7_work_263 : decode cX7_work 263 = .ok (.iconst 1, 1) := by decide +kernel
theorem dX7_work_264 : decode cX7_work 264 = .ok (.aload_n 0, 1) := by decide +kernel
theorem dX7_work_265 : decode cX7_work 265 = .ok (.getfield 20, 3) := by decide +kernel
theorem dX7_work_268 : decode cX7_work 268 = .ok (.iload 8, 2) := by decide +kernel
theorem dX7_work_270 : decode cX7_work 270 = .ok (.laload, 1) := by decide +kernel
theorem dX7_work_271 : decode cX7_work 271 = .ok (.invokevirtual 151, 3) := by decide +kernel
theorem dX7_work_274 : decode cX7_work 274 = .ok (.goto 33, 3) := by decide +kernel
theorem dX7_work_277 : decode cX7_work 277 = .ok (.aload_n 0, 1) := by decide +kernel
theorem dX7_work_278 : decode cX7_work 278 = .ok (.getfield 36, 3) := by decide +kernel
theorem dX7_work_281 : decode cX7_work 281 = .ok (.iload_n 2, 1) := by decide +kernel
theorem dX7_work_282 : decode cX7_work 282 = .ok (.iaload, 1) := by decide +kernel
theorem dX7_work_283 : decode cX7_work 283 = .ok (.iconst 4, 1) := by decide +kernel
theorem dX7_work_284 : decode cX7_work 284 = .ok (.if_icmp .ne 13, 3) := by decide +kernel
theorem dX7_work_287 : decode cX7_work 287 = .ok (.aload_n 0, 1) := by decide +kernel
theorem dX7_work_288 : decode cX7_work 288 = .ok (.iload 6, 2) := by decide +kernel
theorem dX7_work_290 : decode cX7_work 290 = .ok (.iload_n 2, 1) := by decide +kernel
theorem dX7_work_291 : decode cX7_work 291 = .ok (.invokevirtual 187, 3) := by decide +kernel
theorem dX7_work_294 : decode cX7_work 294 = .ok (.goto 13, 3) := by decide +kernel
theorem dX7_work_297 : decode cX7_work 297 = .ok (.aload_n 0, 1) := by decide +kernel
theorem dX7_work_298 : decode cX7_work 298 = .ok (.iload_n 1, 1) := by decide +kernel
theorem dX7_work_299 : decode cX7_work 299 = .ok (.iload 6, 2) := by decide +kernel
theorem dX7_work_301 : decode cX7_work 301 = .ok (.iload_n 2, 1) := by decide +kernel
theorem dX7_work_302 : decode cX7_work 302 = .ok (.iload 8, 2) := by decide +kernel
theorem dX7_work_304 : decode cX7_work 304 = .ok (.invokevirtual 191, 3) := by decide +kernel
theorem dX7_work_307 : decode cX7_work 307 = .ok (.return_, 1) := by decide +kernel
theorem dX7_cancel_0 : decode cX7_cancel 0 = .ok (.aload_n 0, 1) := by decide +kernel
theorem dX7_cancel_1 : decode cX7_cancel 1 = .ok (.getfield 48, 3) := by decide +kernel
theorem dX7_cancel_4 : decode cX7_cancel 4 = .ok (.iload_n 2, 1) := by decide +kernel
theorem dX7_cancel_5 : decode cX7_cancel 5 = .ok (.iaload, 1) := by decide +kernel
theorem dX7_cancel_6 : decode cX7_cancel 6 = .ok (.istore_n 3, 1) := by decide +kernel
theorem dX7_cancel_7 : decode cX7_cancel 7 = .ok (.aload_n 0, 1) := by decide +kernel
theorem dX7_cancel_8 : decode cX7_cancel 8 = .ok (.iload_n 1, 1) := by decide +kernel
theorem dX7_cancel_9 : decode cX7_cancel 9 = .ok (.iload_n 3, 1) := by decide +kernel
theorem dX7_cancel_10 : decode cX7_cancel 10 = .ok (.invokevirtual 169, 3) := by decide +kernel
theorem dX7_cancel_13 : decode cX7_cancel 13 = .ok (.istore 4, 2) := by decide +kernel
theorem dX7_cancel_15 : decode cX7_cancel 15 = .ok (.lconst 1, 1) := by decide +kernel
theorem dX7_cancel_16 : decode cX7_cancel 16 = .ok (.lstore 5, 2) := by decide +kernel
theorem dX7_cancel_18 : decode cX7_cancel 18 = .ok (.iload_n 3, 1) := by decide +kernel
theorem dX7_cancel_19 : decode cX7_cancel 19 = .ok (.aload_n 0, 1) := by decide +kernel
theorem dX7_cancel_20 : decode cX7_cancel 20 = .ok (.getfield 30, 3) := by decide +kernel
theorem dX7_cancel_23 : decode cX7_cancel 23 = .ok (.iload_n 2, 1) := by decide +kernel
theorem dX7_cancel_24 : decode cX7_cancel 24 = .ok (.iaload, 1) := by decide +kernel
theorem dX7_cancel_25 : decode cX7_cancel 25 = .ok (.if_icmp .eq 29, 3) := by decide +kernel
theorem dX7_cancel_28 : decode cX7_cancel 28 = .ok (.iload_n 3, 1) := by decide +kernel
theorem dX7_cancel_29 : decode cX7_cancel 29 = .ok (.aload_n 0, 1) := by decide +kernel
theorem dX7_cancel_30 : decode cX7_cancel 30 = .ok (.getfield 84, 3) := by decide +kernel
theorem dX7_cancel_33 : decode cX7_cancel 33 = .ok (.iload_n 1, 1) := by decide +kernel
theorem dX7_cancel_34 : decode cX7_cancel 34 = .ok (.iaload, 1) := by decide +kernel
theorem dX7_cancel_35 : decode cX7_cancel 35 = .ok (.if_icmp .lt 19, 3) := by decide +kernel
theorem dX7_cancel_38 : decode cX7_cancel 38 = .ok (.iload 4, 2) := by decide +kernel
theorem dX7_cancel_40 : decode cX7_cancel 40 = .ok (.ifCond .lt 20, 3) := by decide +kernel
theorem dX7_cancel_43 : decode cX7_cancel 43 = .ok (.aload_n 0, 1) := by decide +kernel
theorem dX7_cancel_44 : decode cX7_cancel 44 = .ok (.getfield 93, 3) := by decide +kernel
theorem dX7_cancel_47 : decode cX7_cancel 47 = .ok (.iload 4, 2) := by decide +kernel
theorem dX7_cancel_49 : decode cX7_cancel 49 = .ok (.iaload, 1) := by decide +kernel
theorem dX7_cancel_50 : decode cX7_cancel 50 = .ok (.iconst 1, 1) := by decide +kernel
theorem dX7_cancel_51 : decode cX7_cancel 51 = .ok (.if_icmp .ne 9, 3) := by decide +kernel
theorem dX7_cancel_54 : decode cX7_cancel 54 = .ok (.lconst 0, 1) := by decide +kernel
theorem dX7_cancel_55 : decode cX7_cancel 55 = .ok (.lstore 5, 2) := by decide +kernel
theorem dX7_cancel_57 : decode cX7_cancel 57 = .ok (.goto 59, 3) := by decide +kernel
theorem dX7_cancel_60 : decode cX7_cancel 60 = .ok (.iload 4, 2) := by decide +kernel
theorem dX7_cancel_62 : decode cX7_cancel 62 = .ok (.ifCond .lt 22, 3) := by decide +kernel
theorem dX7_cancel_65 : decode cX7_cancel 65 = .ok (.aload_n 0, 1) := by decide +kernel
theorem dX7_cancel_66 : decode cX7_cancel 66 = .ok (.getfield 93, 3) := by decide +kernel
theorem dX7_cancel_69 : decode cX7_cancel 69 = .ok (.iload 4, 2) := by decide +kernel
theorem dX7_cancel_71 : decode cX7_cancel 71 = .ok (.iaload, 1) := by decide +kernel
theorem dX7_cancel_72 : decode cX7_cancel 72 = .ok (.iconst 2, 1) := by decide +kernel
theorem dX7_cancel_73 : decode cX7_cancel 73 = .ok (.if_icmp .ne 11, 3) := by decide +kernel
theorem dX7_cancel_76 : decode cX7_cancel 76 = .ok (.ldc2_w 164, 3) := by decide +kernel
theorem dX7_cancel_79 : decode cX7_cancel 79 = .ok (.lstore 5, 2) := by decide +kernel
theorem dX7_cancel_81 : decode cX7_cancel 81 = .ok (.goto 35, 3) := by decide +kernel
theorem dX7_cancel_84 : decode cX7_cancel 84 = .ok (.iload_n 3, 1) := by decide +kernel
theorem dX7_cancel_85 : decode cX7_cancel 85 = .ok (.aload_n 0, 1) := by decide +kernel
theorem dX7_cancel_86 : decode cX7_cancel 86 = .ok (.getfield 84, 3) := by decide +kernel
theorem dX7_cancel_89 : decode cX7_cancel 89 = .ok (.iload_n 1, 1) := by decide +kernel
theorem dX7_cancel_90 : decode cX7_cancel 90 = .ok (.iaload, 1) := by decide +kernel
theorem dX7_cancel_91 : decode cX7_cancel 91 = .ok (.aload_n 0, 1) := by decide +kernel
theorem dX7_cancel_92 : decode cX7_cancel 92 = .ok (.getfield 102, 3) := by decide +kernel
theorem dX7_cancel_95 : decode cX7_cancel 95 = .ok (.iadd, 1) := by decide +kernel
theorem dX7_cancel_96 : decode cX7_cancel 96 = .ok (.if_icmp .lt 11, 3) := by decide +kernel
theorem dX7_cancel_99 : decode cX7_cancel 99 = .ok (.ldc2_w 132, 3) := by decide +kernel
theorem dX7_cancel_102 : decode cX7_cancel 102 = .ok (.lstore 5, 2) := by decide +kernel
theorem dX7_cancel_104 : decode cX7_cancel 104 = .ok (.goto 12, 3) := by decide +kernel
theorem dX7_cancel_107 : decode cX7_cancel 107 = .ok (.aload_n 0, 1) := by decide +kernel
theorem dX7_cancel_108 : decode cX7_cancel 108 = .ok (.iload_n 1, 1) := by decide +kernel
theorem dX7_cancel_109 : decode cX7_cancel 109 = .ok (.iload_n 3, 1) := by decide +kernel
theorem dX7_cancel_110 : decode cX7_cancel 110 = .ok (.iconst 3, 1) := by decide +kernel
theorem dX7_cancel_111 : decode cX7_cancel 111 = .ok (.lconst 0, 1) := by decide +kernel
theorem dX7_cancel_112 : decode cX7_cancel 112 = .ok (.iconst (-1), 1) := by decide +kernel
theorem dX7_cancel_113 : decode cX7_cancel 113 = .ok (.invokevirtual 175, 3) := by decide +kernel
theorem dX7_cancel_116 : decode cX7_cancel 116 = .ok (.aload_n 0, 1) := by decide +kernel
theorem dX7_cancel_117 : decode cX7_cancel 117 = .ok (.iload_n 1, 1) := by decide +kernel
theorem dX7_cancel_118 : decode cX7_cancel 118 = .ok (.iload_n 2, 1) := by decide +kernel
theorem dX7_cancel_119 : decode cX7_cancel 119 = .ok (.lload 5, 2) := by decide +kernel
theorem dX7_cancel_121 : decode cX7_cancel 121 = .ok (.invokevirtual 195, 3) := by decide +kernel
theorem dX7_cancel_124 : decode cX7_cancel 124 = .ok (.return_, 1) := by decide +kernel
theorem dX7_change_0 : decode cX7_change 0 = .ok (.aload_n 0, 1) := by decide +kernel
theorem dX7_change_1 : decode cX7_change 1 = .ok (.getfield 48, 3) := by decide +kernel
theorem dX7_change_4 : decode cX7_change 4 = .ok (.iload_n 3, 1) := by decide +kernel
theorem dX7_change_5 : decode cX7_change 5 = .ok (.iaload, 1) := by decide +kernel
theorem dX7_change_6 : decode cX7_change 6 = .ok (.i2l, 1) := by decide +kernel
theorem dX7_change_7 : decode cX7_change 7 = .ok (.lstore 5, 2) := by decide +kernel
theorem dX7_change_9 : decode cX7_change 9 = .ok (.bipush 6, 2) := by decide +kernel
theorem dX7_change_11 : decode cX7_change 11 = .ok (.iload_n 1, 1) := by decide +kernel
theorem dX7_change_12 : decode cX7_change 12 = .ok (.imul, 1) := by decide +kernel
theorem dX7_change_13 : decode cX7_change 13 = .ok (.aload_n 0, 1) := by decide +kernel
theorem dX7_change_14 : decode cX7_change 14 = .ok (.getfield 42, 3) := by decide +kernel
theorem dX7_change_17 : decode cX7_change 17 = .ok (.iload_n 3, 1) := by decide +kernel
theorem dX7_change_18 : decode cX7_change 18 = .ok (.iaload, 1) := by decide +kernel
theorem dX7_change_19 : decode cX7_change 19 = .ok (.iadd, 1) := by decide +kernel
theorem dX7_change_20 : decode cX7_change 20 = .ok (.istore 7, 2) := by decide +kernel
theorem dX7_change_22 : decode cX7_change 22 = .ok (.bipush 6, 2) := by decide +kernel
theorem dX7_change_24 : decode cX7_change 24 = .ok (.iload_n 1, 1) := by decide +kernel
theorem dX7_change_25 : decode cX7_change 25 = .ok (.iadd, 1) := by decide +kernel
theorem dX7_change_26 : decode cX7_change 26 = .ok (.istore 8, 2) := by decide +kernel
theorem dX7_change_28 : decode cX7_change 28 = .ok (.iconst 1, 1) := by decide +kernel
theorem dX7_change_29 : decode cX7_change 29 = .ok (.istore 9, 2) := by decide +kernel
theorem dX7_change_31 : decode cX7_change 31 = .ok (.aload_n 0, 1) := by decide +kernel
theorem dX7_change_32 : decode cX7_change 32 = .ok (.getfield 36, 3) := by decide +kernel
theorem dX7_change_35 : decode cX7_change 35 = .ok (.iload_n 3, 1) := by decide +kernel
theorem dX7_change_36 : decode cX7_change 36 = .ok (.iaload, 1) := by decide +kernel
theorem dX7_change_37 : decode cX7_change 37 = .ok (.lookupswitch 115 #[(1, 27), (2, 64)], 27) := by decide +kernel
theorem dX7_change_64 : decode cX7_change 64 = .ok (.aload_n 0, 1) := by decide +kernel
theorem dX7_change_65 : decode cX7_change 65 = .ok (.getfield 24, 3) := by decide +kernel
theorem dX7_change_68 : decode cX7_change 68 = .ok (.iload_n 3, 1) := by decide +kernel
theorem dX7_change_69 : decode cX7_change 69 = .ok (.iaload, 1) := by decide +kernel
theorem dX7_change_70 : decode cX7_change 70 = .ok (.iconst 5, 1) := by decide +kernel
theorem dX7_change_71 : decode cX7_change 71 = .ok (.if_icmp .gt 20, 3) := by decide +kernel
theorem dX7_change_74 : decode cX7_change 74 = .ok (.aload_n 0, 1) := by decide +kernel
theorem dX7_change_75 : decode cX7_change 75 = .ok (.aload_n 0, 1) := by decide +kernel
theorem dX7_change_76 : decode cX7_change 76 = .ok (.getfield 20, 3) := by decide +kernel
theorem dX7_change_79 : decode cX7_change 79 = .ok (.iload 4, 2) := by decide +kernel
theorem dX7_change_81 : decode cX7_change 81 = .ok (.laload, 1) := by decide +kernel
theorem dX7_change_82 : decode cX7_change 82 = .ok (.lload 5, 2) := by decide +kernel
theorem dX7_change_84 : decode cX7_change 84 = .ok (.ladd, 1) := by decide +kernel
theorem dX7_change_85 : decode cX7_change 85 = .ok (.invokevirtual 199, 3) := by decide +kernel
theorem dX7_change_88 : decode cX7_change 88 = .ok (.ifCond .eq 7, 3) := by decide +kernel
theorem dX7_change_91 : decode cX7_change 91 = .ok (.iconst 1, 1) := by decide +kernel
theorem dX7_change_92 : decode cX7_change 92 = .ok (.goto 4, 3) := by decide +kernel
theorem dX7_change_95 : decode cX7_change 95 = .ok (.iconst 0, 1) := by decide +kernel
theorem dX7_change_96 : decode cX7_change 96 = .ok (.istore 9, 2) := by decide +kernel
theorem dX7_change_98 : decode cX7_change 98 = .ok (.goto 97, 3) := by decide +kernel
theorem dX7_change_101 : decode cX7_change 101 = .ok (.iload 4, 2) := by decide +kernel
theorem dX7_change_103 : decode cX7_change 103 = .ok (.iload 7, 2) := by decide +kernel
theorem dX7_change_105 : decode cX7_change 105 = .ok (.if_icmp .eq 37, 3) := by decide +kernel
theorem dX7_change_108 : decode cX7_change 108 = .ok (.aload_n 0, 1) := by decide +kernel
theorem dX7_change_109 : decode cX7_change 109 = .ok (.aload_n 0, 1) := by decide +kernel
theorem dX7_change_110 : decode cX7_change 110 = .ok (.getfield 20, 3) := by decide +kernel
theorem dX7_change_113 : decode cX7_change 113 = .ok (.iload 4, 2) := by decide +kernel
theorem dX7_change_115 : decode cX7_change 115 = .ok (.laload, 1) := by decide +kernel
theorem dX7_change_116 : decode cX7_change 116 = .ok (.lload 5, 2) := by decide +kernel
theorem dX7_change_118 : decode cX7_change 118 = .ok (.lsub, 1) := by decide +kernel
theorem dX7_change_119 : decode cX7_change 119 = .ok (.invokevirtual 199, 3) := by decide +kernel
theorem dX7_change_122 : decode cX7_change 122 = .ok (.ifCond .eq 24, 3) := by decide +kernel
theorem dX7_change_125 : decode cX7_change 125 = .ok (.aload_n 0, 1) := by decide +kernel
theorem dX7_change_126 : decode cX7_change 126 = .ok (.aload_n 0, 1) := by decide +kernel
theorem dX7_change_127 : decode cX7_change 127 = .ok (.getfield 20, 3) := by decide +kernel
theorem dX7_change_130 : decode cX7_change 130 = .ok (.iload 7, 2) := by decide +kernel
theorem dX7_change_132 : decode cX7_change 132 = .ok (.laload, 1) := by decide +kernel
theorem dX7_change_133 : decode cX7_change 133 = .ok (.lload 5, 2) := by decide +kernel
theorem dX7_change_135 : decode cX7_change 135 = .ok (.ladd, 1) := by decide +kernel
theorem dX7_change_136 : decode cX7_change 136 = .ok (.invokevirtual 199, 3) := by decide +kernel
theorem dX7_change_139 : decode cX7_change 139 = .ok (.ifCond .eq 7, 3) := by decide +kernel
theorem dX7_change_142 : decode cX7_change 142 = .ok (.iconst 1, 1) := by decide +kernel
theorem dX7_change_143 : decode cX7_change 143 = .ok (.goto 4, 3) := by decide +kernel
theorem dX7_change_146 : decode cX7_change 146 = .ok (.iconst 0, 1) := by decide +kernel
theorem dX7_change_147 : decode cX7_change 147 = .ok (.istore 9, 2) := by decide +kernel
theorem dX7_change_149 : decode cX7_change 149 = .ok (.goto 46, 3) := by decide +kernel
theorem dX7_change_152 : decode cX7_change 152 = .ok (.aload_n 0, 1) := by decide +kernel
theorem dX7_change_153 : decode cX7_change 153 = .ok (.aload_n 0, 1) := by decide +kernel
theorem dX7_change_154 : decode cX7_change 154 = .ok (.getfield 20, 3) := by decide +kernel
theorem dX7_change_157 : decode cX7_change 157 = .ok (.iload 4, 2) := by decide +kernel
theorem dX7_change_159 : decode cX7_change 159 = .ok (.laload, 1) := by decide +kernel
theorem dX7_change_160 : decode cX7_change 160 = .ok (.lload 5, 2) := by decide +kernel
theorem dX7_change_162 : decode cX7_change 162 = .ok (.lsub, 1) := by decide +kernel
theorem dX7_change_163 : decode cX7_change 163 = .ok (.invokevirtual 199, 3) := by decide +kernel
theorem dX7_change_166 : decode cX7_change 166 = .ok (.ifCond .eq 26, 3) := by decide +kernel
theorem dX7_change_169 : decode cX7_change 169 = .ok (.aload_n 0, 1) := by decide +kernel
theorem dX7_change_170 : decode cX7_change 170 = .ok (.getfield 106, 3) := by decide +kernel
theorem dX7_change_173 : decode cX7_change 173 = .ok (.sipush 300, 3) := by decide +kernel
theorem dX7_change_176 : decode cX7_change 176 = .ok (.if_icmp .ge 16, 3) := by decide +kernel
theorem dX7_change_179 : decode cX7_change 179 = .ok (.aload_n 0, 1) := by decide +kernel
theorem dX7_change_180 : decode cX7_change 180 = .ok (.iload 8, 2) := by decide +kernel
theorem dX7_change_182 : decode cX7_change 182 = .ok (.invokevirtual 142, 3) := by decide +kernel
theorem dX7_change_185 : decode cX7_change 185 = .ok (.ifCond .ne 7, 3) := by decide +kernel
theorem dX7_change_188 : decode cX7_change 188 = .ok (.iconst 1, 1) := by decide +kernel
theorem dX7_change_189 : decode cX7_change 189 = .ok (.goto 4, 3) := by decide +kernel
theorem dX7_change_192 : decode cX7_change 192 = .ok (.iconst 0, 1) := by decide +kernel
theorem dX7_change_193 : decode cX7_change 193 = .ok (.istore 9, 2) := by decide +kernel
theorem dX7_change_195 : decode cX7_change 195 = .ok (.iload 9, 2) := by decide +kernel
theorem dX7_change_197 : decode cX7_change 197 = .ok (.ifCond .ne 13, 3) := by decide +kernel
theorem dX7_change_200 : decode cX7_change 200 = .ok (.aload_n 0, 1) := by decide +kernel
theorem dX7_change_201 : decode cX7_change 201 = .ok (.iload_n 2, 1) := by decide +kernel
theorem dX7_change_202 : decode cX7_change 202 = .ok (.iload_n 3, 1) := by decide +kernel
theorem dX7_change_203 : decode cX7_change 203 = .ok (.ldc2_w 203, 3) := by decide +kernel
theorem dX7_change_206 : decode cX7_change 206 = .ok (.invokevirtual 195, 3) := by decide +kernel
theorem dX7_change_209 : decode cX7_change 209 = .ok (.return_, 1) := by decide +kernel
theorem dX7_change_210 : decode cX7_change 210 = .ok (.aload_n 0, 1) := by decide +kernel
theorem dX7_change_211 : decode cX7_change 211 = .ok (.getfield 63, 3) := by decide +kernel
theorem dX7_change_214 : decode cX7_change 214 = .ok (.iload_n 3, 1) := by decide +kernel
theorem dX7_change_215 : decode cX7_change 215 = .ok (.iconst 1, 1) := by decide +kernel
theorem dX7_change_216 : decode cX7_change 216 = .ok (.bastore, 1) := by decide +kernel
theorem dX7_change_217 : decode cX7_change 217 = .ok (.aload_n 0, 1) := by decide +kernel
theorem dX7_change_218 : decode cX7_change 218 = .ok (.getfield 20, 3) := by decide +kernel
theorem dX7_change_221 : decode cX7_change 221 = .ok (.iload 4, 2) := by decide +kernel
theorem dX7_change_223 : decode cX7_change 223 = .ok (.dup2, 1) := by decide +kernel
theorem dX7_change_224 : decode cX7_change 224 = .ok (.laload, 1) := by decide +kernel
theorem dX7_change_225 : decode cX7_change 225 = .ok (.aload_n 0, 1) := by decide +kernel
theorem dX7_change_226 : decode cX7_change 226 = .ok (.getfield 36, 3) := by decide +kernel
theorem dX7_change_229 : decode cX7_change 229 = .ok (.iload_n 3, 1) := by decide +kernel
theorem dX7_change_230 : decode cX7_change 230 = .ok (.iaload, 1) := by decide +kernel
theorem dX7_change_231 : decode cX7_change 231 = .ok (.iconst 1, 1) := by decide +kernel
theorem dX7_change_232 : decode cX7_change 232 = .ok (.if_icmp .ne 8, 3) := by decide +kernel
theorem dX7_change_235 : decode cX7_change 235 = .ok (.lload 5, 2) := by decide +kernel
theorem dX7_change_237 : decode cX7_change 237 = .ok (.goto 6, 3) := by decide +kernel
theorem dX7_change_240 : decode cX7_change 240 = .ok (.lload 5, 2) := by decide +kernel
theorem dX7_change_242 : decode cX7_change 242 = .ok (.lneg, 1) := by decide +kernel
theorem dX7_change_243 : decode cX7_change 243 = .ok (.ladd, 1) := by decide +kernel
theorem dX7_change_244 : decode cX7_change 244 = .ok (.lastore, 1) := by decide +kernel
theorem dX7_change_245 : decode cX7_change 245 = .ok (.aload_n 0, 1) := by decide +kernel
theorem dX7_change_246 : decode cX7_change 246 = .ok (.getfield 20, 3) := by decide +kernel
theorem dX7_change_249 : decode cX7_change 249 = .ok (.iload 7, 2) := by decide +kernel
theorem dX7_change_251 : decode cX7_change 251 = .ok (.dup2, 1) := by decide +kernel
theorem dX7_change_252 : decode cX7_change 252 = .ok (.laload, 1) := by decide +kernel
theorem dX7_change_253 : decode cX7_change 253 = .ok (.aload_n 0, 1) := by decide +kernel
theorem dX7_change_254 : decode cX7_change 254 = .ok (.getfield 36, 3) := by decide +kernel
theorem dX7_change_257 : decode cX7_change 257 = .ok (.iload_n 3, 1) := by decide +kernel
theorem dX7_change_258 : decode cX7_change 258 = .ok (.iaload, 1) := by decide +kernel
theorem dX7_change_259 : decode cX7_change 259 = .ok (.iconst 2, 1) := by decide +kernel
theorem dX7_change_260 : decode cX7_change 260 = .ok (.if_icmp .ne 8, 3) := by decide +kernel
theorem dX7_change_263 : decode cX7_change 263 = .ok (.lload 5, 2) := by decide +kernel
theorem dX7_change_265 : decode cX7_change 265 = .ok (.goto 4, 3) := by decide +kernel
theorem dX7_change_268 : decode cX7_change 268 = .ok (.lconst 0, 1) := by decide +kernel
theorem dX7_change_269 : decode cX7_change 269 = .ok (.ladd, 1) := by decide +kernel
theorem dX7_change_270 : decode cX7_change 270 = .ok (.lastore, 1) := by decide +kernel
theorem dX7_change_271 : decode cX7_change 271 = .ok (.aload_n 0, 1) := by decide +kernel
theorem dX7_change_272 : decode cX7_change 272 = .ok (.getfield 36, 3) := by decide +kernel
theorem dX7_change_275 : decode cX7_change 275 = .ok (.iload_n 3, 1) := by decide +kernel
theorem dX7_change_276 : decode cX7_change 276 = .ok (.iaload, 1) := by decide +kernel
theorem dX7_change_277 : decode cX7_change 277 = .ok (.iconst 3, 1) := by decide +kernel
theorem dX7_change_278 : decode cX7_change 278 = .ok (.if_icmp .eq 17, 3) := by decide +kernel
theorem dX7_change_281 : decode cX7_change 281 = .ok (.aload_n 0, 1) := by decide +kernel
theorem dX7_change_282 : decode cX7_change 282 = .ok (.iload_n 2, 1) := by decide +kernel
theorem dX7_change_283 : decode cX7_change 283 = .ok (.iload_n 3, 1) := by decide +kernel
theorem dX7_change_284 : decode cX7_change 284 = .ok (.aload_n 0, 1) := by decide +kernel
theorem dX7_change_285 : decode cX7_change 285 = .ok (.getfield 20, 3) := by decide +kernel
theorem dX7_change_288 : decode cX7_change 288 = .ok (.iload 4, 2) := by decide +kernel
theorem dX7_change_290 : decode cX7_change 290 = .ok (.laload, 1) := by decide +kernel
theorem dX7_change_291 : decode cX7_change 291 = .ok (.invokevirtual 195, 3) := by decide +kernel
theorem dX7_change_294 : decode cX7_change 294 = .ok (.return_, 1) := by decide +kernel
theorem dX7_change_295 : decode cX7_change 295 = .ok (.aload_n 0, 1) := by decide +kernel
theorem dX7_change_296 : decode cX7_change 296 = .ok (.iload 8, 2) := by decide +kernel
theorem dX7_change_298 : decode cX7_change 298 = .ok (.aload_n 0, 1) := by decide +kernel
theorem dX7_change_299 : decode cX7_change 299 = .ok (.getfield 45, 3) := by decide +kernel
theorem dX7_change_302 : decode cX7_change 302 = .ok (.iload_n 3, 1) := by decide +kernel
theorem dX7_change_303 : decode cX7_change 303 = .ok (.iaload, 1) := by decide +kernel
theorem dX7_change_304 : decode cX7_change 304 = .ok (.iconst 1, 1) := by decide +kernel
theorem dX7_change_305 : decode cX7_change 305 = .ok (.aload_n 0, 1) := by decide +kernel
theorem dX7_change_306 : decode cX7_change 306 = .ok (.getfield 42, 3) := by decide +kernel
theorem dX7_change_309 : decode cX7_change 309 = .ok (.iload_n 3, 1) := by decide +kernel
theorem dX7_change_310 : decode cX7_change 310 = .ok (.iaload, 1) := by decide +kernel
theorem dX7_change_311 : decode cX7_change 311 = .ok (.iconst 0, 1) := by decide +kernel
theorem dX7_change_312 : decode cX7_change 312 = .ok (.iconst 0, 1) := by decide +kernel
theorem dX7_change_313 : decode cX7_change 313 = .ok (.aload_n 0, 1) := by decide +kernel
theorem dX7_change_314 : decode cX7_change 314 = .ok (.getfield 48, 3) := by decide +kernel
theorem dX7_change_317 : decode cX7_change 317 = .ok (.iload_n 3, 1) := by decide +kernel
theorem dX7_change_318 : decode cX7_change 318 = .ok (.iaload, 1) := by decide +kernel
theorem dX7_change_319 : decode cX7_change 319 = .ok (.iload_n 3, 1) := by decide +kernel
theorem dX7_change_320 : decode cX7_change 320 = .ok (.invokevirtual 147, 3) := by decide +kernel
theorem dX7_change_323 : decode cX7_change 323 = .ok (.istore 10, 2) := by decide +kernel
theorem dX7_change_325 : decode cX7_change 325 = .ok (.aload_n 0, 1) := by decide +kernel
theorem dX7_change_326 : decode cX7_change 326 = .ok (.getfield 60, 3) := by decide +kernel
theorem dX7_change_329 : decode cX7_change 329 = .ok (.iload_n 3, 1) := by decide +kernel
theorem dX7_change_330 : decode cX7_change 330 = .ok (.iload 10, 2) := by decide +kernel
theorem dX7_change_332 : decode cX7_change 332 = .ok (.iastore, 1) := by decide +kernel
theorem dX7_change_333 : decode cX7_change 333 = .ok (.aload_n 0, 1) := by decide +kernel
theorem dX7_change_334 : decode cX7_change 334 = .ok (.iload_n 2, 1) := by decide +kernel
theorem dX7_change_335 : decode cX7_change 335 = .ok (.aload_n 0, 1) := by decide +kernel
theorem dX7_change_336 : decode cX7_change 336 = .ok (.getfield 30, 3) := by decide +kernel
theorem dX7_change_339 : decode cX7_change 339 = .ok (.iload_n 3, 1) := by decide +kernel
theorem dX7_change_340 : decode cX7_change 340 = .ok (.iaload, 1) := by decide +kernel
theorem dX7_change_341 : decode cX7_change 341 = .ok (.iconst 2, 1) := by decide +kernel
theorem dX7_change_342 : decode cX7_change 342 = .ok (.lconst 0, 1) := by decide +kernel
theorem dX7_change_343 : decode cX7_change 343 = .ok (.iload 10, 2) := by decide +kernel
theorem dX7_change_345 : decode cX7_change 345 = .ok (.invokevirtual 175, 3) := by decide +kernel
theorem dX7_change_348 : decode cX7_change 348 = .ok (.aload_n 0, 1) := by decide +kernel
theorem dX7_change_349 : decode cX7_change 349 = .ok (.iload 10, 2) := by decide +kernel
theorem dX7_change_351 : decode cX7_change 351 = .ok (.iconst 0, 1) := by decide +kernel
theorem dX7_change_352 : decode cX7_change 352 = .ok (.lconst 0, 1) := by decide +kernel
theorem dX7_change_353 : decode cX7_change 353 = .ok (.invokevirtual 151, 3) := by decide +kernel
theorem dX7_change_356 : decode cX7_change 356 = .ok (.return_, 1) := by decide +kernel
theorem dX7_through_0 : decode cX7_through 0 = .ok (.aload_n 0, 1) := by decide +kernel
theorem dX7_through_1 : decode cX7_through 1 = .ok (.getfield 51, 3) := by decide +kernel
theorem dX7_through_4 : decode cX7_through 4 = .ok (.iload_n 2, 1) := by decide +kernel
theorem dX7_through_5 : decode cX7_through 5 = .ok (.iaload, 1) := by decide +kernel
theorem dX7_through_6 : decode cX7_through 6 = .ok (.ifCond .eq 4, 3) := by decide +kernel
theorem dX7_through_9 : decode cX7_through 9 = .ok (.return_, 1) := by decide +kernel
theorem dX7_through_10 : decode cX7_through 10 = .ok (.aload_n 0, 1) := by decide +kernel
theorem dX7_through_11 : decode cX7_through 11 = .ok (.getfield 51, 3) := by decide +kernel
theorem dX7_through_14 : decode cX7_through 14 = .ok (.iload_n 2, 1) := by decide +kernel
theorem dX7_through_15 : decode cX7_through 15 = .ok (.iconst 1, 1) := by decide +kernel
theorem dX7_through_16 : decode cX7_through 16 = .ok (.iastore, 1) := by decide +kernel
theorem dX7_through_17 : decode cX7_through 17 = .ok (.aload_n 0, 1) := by decide +kernel
theorem dX7_through_18 : decode cX7_through 18 = .ok (.getfield 54, 3) := by decide +kernel
theorem dX7_through_21 : decode cX7_through 21 = .ok (.iload_n 2, 1) := by decide +kernel
theorem dX7_through_22 : decode cX7_through 22 = .ok (.lload_n 3, 1) := by decide +kernel
theorem dX7_through_23 : decode cX7_through 23 = .ok (.lastore, 1) := by decide +kernel
theorem dX7_through_24 : decode cX7_through 24 = .ok (.aload_n 0, 1) := by decide +kernel
theorem dX7_through_25 : decode cX7_through 25 = .ok (.getfield 57, 3) := by decide +kernel
theorem dX7_through_28 : decode cX7_through 28 = .ok (.iload_n 2, 1) := by decide +kernel
theorem dX7_through_29 : decode cX7_through 29 = .ok (.iaload, 1) := by decide +kernel
theorem dX7_through_30 : decode cX7_through 30 = .ok (.istore 5, 2) := by decide +kernel
theorem dX7_through_32 : decode cX7_through 32 = .ok (.aload_n 0, 1) := by decide +kernel
theorem dX7_through_33 : decode cX7_through 33 = .ok (.bipush 10, 2) := by decide +kernel
theorem dX7_through_35 : decode cX7_through 35 = .ok (.iload_n 1, 1) := by decide +kernel
theorem dX7_through_36 : decode cX7_through 36 = .ok (.imul, 1) := by decide +kernel
theorem dX7_through_37 : decode cX7_through 37 = .ok (.aload_n 0, 1) := by decide +kernel
theorem dX7_through_38 : decode cX7_through 38 = .ok (.getfield 24, 3) := by decide +kernel
theorem dX7_through_41 : decode cX7_through 41 = .ok (.iload 5, 2) := by decide +kernel
theorem dX7_through_43 : decode cX7_through 43 = .ok (.iaload, 1) := by decide +kernel
theorem dX7_through_44 : decode cX7_through 44 = .ok (.iadd, 1) := by decide +kernel
theorem dX7_through_45 : decode cX7_through 45 = .ok (.aload_n 0, 1) := by decide +kernel
theorem dX7_through_46 : decode cX7_through 46 = .ok (.getfield 30, 3) := by decide +kernel
theorem dX7_through_49 : decode cX7_through 49 = .ok (.iload 5, 2) := by decide +kernel
theorem dX7_through_51 : decode cX7_through 51 = .ok (.iaload, 1) := by decide +kernel
theorem dX7_through_52 : decode cX7_through 52 = .ok (.invokevirtual 169, 3) := by decide +kernel
theorem dX7_through_55 : decode cX7_through 55 = .ok (.istore 6, 2) := by decide +kernel
theorem dX7_through_57 : decode cX7_through 57 = .ok (.iload 6, 2) := by decide +kernel
theorem dX7_through_59 : decode cX7_through 59 = .ok (.ifCond .lt 71, 3) := by decide +kernel
theorem dX7_through_62 : decode cX7_through 62 = .ok (.aload_n 0, 1) := by decide +kernel
theorem dX7_through_63 : decode cX7_through 63 = .ok (.getfield 93, 3) := by decide +kernel
theorem dX7_through_66 : decode cX7_through 66 = .ok (.iload 6, 2) := by decide +kernel
theorem dX7_through_68 : decode cX7_through 68 = .ok (.iaload, 1) := by decide +kernel
theorem dX7_through_69 : decode cX7_through 69 = .ok (.iconst 2, 1) := by decide +kernel
theorem dX7_through_70 : decode cX7_through 70 = .ok (.if_icmp .ne 60, 3) := by decide +kernel
theorem dX7_through_73 : decode cX7_through 73 = .ok (.aload_n 0, 1) := by decide +kernel
theorem dX7_through_74 : decode cX7_through 74 = .ok (.getfield 99, 3) := by decide +kernel
theorem dX7_through_77 : decode cX7_through 77 = .ok (.iload 6, 2) := by decide +kernel
theorem dX7_through_79 : decode cX7_through 79 = .ok (.iaload, 1) := by decide +kernel
theorem dX7_through_80 : decode cX7_through 80 = .ok (.iload_n 2, 1) := by decide +kernel
theorem dX7_through_81 : decode cX7_through 81 = .ok (.if_icmp .ne 49, 3) := by decide +kernel
theorem dX7_through_84 : decode cX7_through 84 = .ok (.aload_n 0, 1) := by decide +kernel
theorem dX7_through_85 : decode cX7_through 85 = .ok (.getfield 93, 3) := by decide +kernel
theorem dX7_through_88 : decode cX7_through 88 = .ok (.iload 6, 2) := by decide +kernel
theorem dX7_through_90 : decode cX7_through 90 = .ok (.iconst 1, 1) := by decide +kernel
theorem dX7_through_91 : decode cX7_through 91 = .ok (.iastore, 1) := by decide +kernel
theorem dX7_through_92 : decode cX7_through 92 = .ok (.aload_n 0, 1) := by decide +kernel
theorem dX7_through_93 : decode cX7_through 93 = .ok (.getfield 96, 3) := by decide +kernel
theorem dX7_through_96 : decode cX7_through 96 = .ok (.iload 6, 2) := by decide +kernel
theorem dX7_through_98 : decode cX7_through 98 = .ok (.aload_n 0, 1) := by decide +kernel
theorem dX7_through_99 : decode cX7_through 99 = .ok (.getfield 20, 3) := by decide +kernel
theorem dX7_through_102 : decode cX7_through 102 = .ok (.bipush 6, 2) := by decide +kernel
theorem dX7_through_104 : decode cX7_through 104 = .ok (.iload_n 1, 1) := by decide +kernel
theorem dX7_through_105 : decode cX7_through 105 = .ok (.imul, 1) := by decide +kernel
theorem dX7_through_106 : decode cX7_through 106 = .ok (.aload_n 0, 1) := by decide +kernel
theorem dX7_through_107 : decode cX7_through 107 = .ok (.getfield 39, 3) := by decide +kernel
theorem dX7_through_110 : decode cX7_through 110 = .ok (.iload 5, 2) := by decide +kernel
theorem dX7_through_112 : decode cX7_through 112 = .ok (.iaload, 1) := by decide +kernel
theorem dX7_through_113 : decode cX7_through 113 = .ok (.iadd, 1) := by decide +kernel
theorem dX7_through_114 : decode cX7_through 114 = .ok (.laload, 1) := by decide +kernel
theorem dX7_through_115 : decode cX7_through 115 = .ok (.lastore, 1) := by decide +kernel
theorem dX7_through_116 : decode cX7_through 116 = .ok (.aload_n 0, 1) := by decide +kernel
theorem dX7_through_117 : decode cX7_through 117 = .ok (.iload 5, 2) := by decide +kernel
theorem dX7_through_119 : decode cX7_through 119 = .ok (.iconst 1, 1) := by decide +kernel
theorem dX7_through_120 : decode cX7_through 120 = .ok (.aload_n 0, 1) := by decide +kernel
theorem dX7_through_121 : decode cX7_through 121 = .ok (.getfield 96, 3) := by decide +kernel
theorem dX7_through_124 : decode cX7_through 124 = .ok (.iload 6, 2) := by decide +kernel
theorem dX7_through_126 : decode cX7_through 126 = .ok (.laload, 1) := by decide +kernel
theorem dX7_through_127 : decode cX7_through 127 = .ok (.invokevirtual 151, 3) := by decide +kernel
theorem dX7_through_130 : decode cX7_through 130 = .ok (.return_, 1) := by decide +kernel
theorem dX7_comes_0 : decode cX7_comes 0 = .ok (.iload_n 2, 1) := by decide +kernel
theorem dX7_comes_1 : decode cX7_comes 1 = .ok (.ifCond .eq 12, 3) := by decide +kernel
theorem dX7_comes_4 : decode cX7_comes 4 = .ok (.aload_n 0, 1) := by decide +kernel
theorem dX7_comes_5 : decode cX7_comes 5 = .ok (.getfield 24, 3) := by decide +kernel
theorem dX7_comes_8 : decode cX7_comes 8 = .ok (.iload_n 1, 1) := by decide +kernel
theorem dX7_comes_9 : decode cX7_comes 9 = .ok (.iaload, 1) := by decide +kernel
theorem dX7_comes_10 : decode cX7_comes 10 = .ok (.goto 12, 3) := by decide +kernel
theorem dX7_comes_13 : decode cX7_comes 13 = .ok (.bipush 6, 2) := by decide +kernel
theorem dX7_comes_15 : decode cX7_comes 15 = .ok (.aload_n 0, 1) := by decide +kernel
theorem dX7_comes_16 : decode cX7_comes 16 = .ok (.getfield 33, 3) := by decide +kernel
theorem dX7_comes_19 : decode cX7_comes 19 = .ok (.iload_n 1, 1) := by decide +kernel
theorem dX7_comes_20 : decode cX7_comes 20 = .ok (.iaload, 1) := by decide +kernel
theorem dX7_comes_21 : decode cX7_comes 21 = .ok (.iadd, 1) := by decide +kernel
theorem dX7_comes_22 : decode cX7_comes 22 = .ok (.istore 8, 2) := by decide +kernel
theorem dX7_comes_24 : decode cX7_comes 24 = .ok (.aload_n 0, 1) := by decide +kernel
theorem dX7_comes_25 : decode cX7_comes 25 = .ok (.getfield 7, 3) := by decide +kernel
theorem dX7_comes_28 : decode cX7_comes 28 = .ok (.iload 8, 2) := by decide +kernel
theorem dX7_comes_30 : decode cX7_comes 30 = .ok (.baload, 1) := by decide +kernel
theorem dX7_comes_31 : decode cX7_comes 31 = .ok (.ifCond .eq 4, 3) := by decide +kernel
theorem dX7_comes_34 : decode cX7_comes 34 = .ok (.return_, 1) := by decide +kernel
theorem dX7_comes_35 : decode cX7_comes 35 = .ok (.aload_n 0, 1) := by decide +kernel
theorem dX7_comes_36 : decode cX7_comes 36 = .ok (.iload 7, 2) := by decide +kernel
theorem dX7_comes_38 : decode cX7_comes 38 = .ok (.iconst 3, 1) := by decide +kernel
theorem dX7_comes_39 : decode cX7_comes 39 = .ok (.if_icmp .ge 7, 3) := by decide +kernel
theorem dX7_comes_42 : decode cX7_comes 42 = .ok (.iconst 1, 1) := by decide +kernel
theorem dX7_comes_43 : decode cX7_comes 43 = .ok (.goto 4, 3) := by decide +kernel
theorem dX7_comes_46 : decode cX7_comes 46 = .ok (.iconst 0, 1) := by decide +kernel
theorem dX7_comes_47 : decode cX7_comes 47 = .ok (.putfield 117, 3) := by decide +kernel
theorem dX7_comes_50 : decode cX7_comes 50 = .ok (.iload 7, 2) := by decide +kernel
theorem dX7_comes_52 : decode cX7_comes 52 = .ok (.ifCond .le 12, 3) := by decide +kernel
theorem dX7_comes_55 : decode cX7_comes 55 = .ok (.iload 6, 2) := by decide +kernel
theorem dX7_comes_57 : decode cX7_comes 57 = .ok (.ifCond .ne 7, 3) := by decide +kernel
theorem dX7_comes_60 : decode cX7_comes 60 = .ok (.iconst 1, 1) := by decide +kernel
theorem dX7_comes_61 : decode cX7_comes 61 = .ok (.goto 4, 3) := by decide +kernel
theorem dX7_comes_64 : decode cX7_comes 64 = .ok (.iconst 0, 1) := by decide +kernel
theorem dX7_comes_65 : decode cX7_comes 65 = .ok (.istore 9, 2) := by decide +kernel
theorem dX7_comes_67 : decode cX7_comes 67 = .ok (.iload 9, 2) := by decide +kernel
theorem dX7_comes_69 : decode cX7_comes 69 = .ok (.ifCond .eq 33, 3) := by decide +kernel
theorem dX7_comes_72 : decode cX7_comes 72 = .ok (.iload_n 2, 1) := by decide +kernel
theorem dX7_comes_73 : decode cX7_comes 73 = .ok (.ifCond .ne 29, 3) := by decide +kernel
theorem dX7_comes_76 : decode cX7_comes 76 = .ok (.aload_n 0, 1) := by decide +kernel
theorem dX7_comes_77 : decode cX7_comes 77 = .ok (.aload_n 0, 1) := by decide +kernel
theorem dX7_comes_78 : decode cX7_comes 78 = .ok (.getfield 33, 3) := by decide +kernel
theorem dX7_comes_81 : decode cX7_comes 81 = .ok (.iload_n 1, 1) := by decide +kernel
theorem dX7_comes_82 : decode cX7_comes 82 = .ok (.iaload, 1) := by decide +kernel
theorem dX7_comes_83 : decode cX7_comes 83 = .ok (.iload_n 1, 1) := by decide +kernel
theorem dX7_comes_84 : decode cX7_comes 84 = .ok (.iload_n 3, 1) := by decide +kernel
theorem dX7_comes_85 : decode cX7_comes 85 = .ok (.iload 7, 2) := by decide +kernel
theorem dX7_comes_87 : decode cX7_comes 87 = .ok (.iconst 1, 1) := by decide +kernel
theorem dX7_comes_88 : decode cX7_comes 88 = .ok (.if_icmp .ne 7, 3) := by decide +kernel
theorem dX7_comes_91 : decode cX7_comes 91 = .ok (.iconst 1, 1) := by decide +kernel
theorem dX7_comes_92 : decode cX7_comes 92 = .ok (.goto 4, 3) := by decide +kernel
theorem dX7_comes_95 : decode cX7_comes 95 = .ok (.iconst 0, 1) := by decide +kernel
theorem dX7_comes_96 : decode cX7_comes 96 = .ok (.invokevirtual 205, 3) := by decide +kernel
theorem dX7_comes_99 : decode cX7_comes 99 = .ok (.goto 91, 3) := by decide +kernel
theorem dX7_comes_102 : decode cX7_comes 102 = .ok (.iload 9, 2) := by decide +kernel
theorem dX7_comes_104 : decode cX7_comes 104 = .ok (.ifCond .eq 30, 3) := by decide +kernel
theorem dX7_comes_107 : decode cX7_comes 107 = .ok (.iload 8, 2) := by decide +kernel
theorem dX7_comes_109 : decode cX7_comes 109 = .ok (.iconst 5, 1) := by decide +kernel
theorem dX7_comes_110 : decode cX7_comes 110 = .ok (.if_icmp .le 24, 3) := by decide +kernel
theorem dX7_comes_113 : decode cX7_comes 113 = .ok (.iload 7, 2) := by decide +kernel
theorem dX7_comes_115 : decode cX7_comes 115 = .ok (.iconst 1, 1) := by decide +kernel
theorem dX7_comes_116 : decode cX7_comes 116 = .ok (.if_icmp .le 18, 3) := by decide +kernel
theorem dX7_comes_119 : decode cX7_comes 119 = .ok (.aload_n 0, 1) := by decide +kernel
theorem dX7_comes_120 : decode cX7_comes 120 = .ok (.iload 8, 2) := by decide +kernel
theorem dX7_comes_122 : decode cX7_comes 122 = .ok (.bipush 6, 2) := by decide +kernel
theorem dX7_comes_124 : decode cX7_comes 124 = .ok (.isub, 1) := by decide +kernel
theorem dX7_comes_125 : decode cX7_comes 125 = .ok (.iload_n 1, 1) := by decide +kernel
theorem dX7_comes_126 : decode cX7_comes 126 = .ok (.lload 4, 2) := by decide +kernel
theorem dX7_comes_128 : decode cX7_comes 128 = .ok (.invokevirtual 209, 3) := by decide +kernel
theorem dX7_comes_131 : decode cX7_comes 131 = .ok (.goto 59, 3) := by decide +kernel
theorem dX7_comes_134 : decode cX7_comes 134 = .ok (.iload 9, 2) := by decide +kernel
theorem dX7_comes_136 : decode cX7_comes 136 = .ok (.ifCond .eq 54, 3) := by decide +kernel
theorem dX7_comes_139 : decode cX7_comes 139 = .ok (.iload 8, 2) := by decide +kernel
theorem dX7_comes_141 : decode cX7_comes 141 = .ok (.bipush 6, 2) := by decide +kernel
theorem dX7_comes_143 : decode cX7_comes 143 = .ok (.if_icmp .ge 47, 3) := by decide +kernel
theorem dX7_comes_146 : decode cX7_comes 146 = .ok (.aload_n 0, 1) := by decide +kernel
theorem dX7_comes_147 : decode cX7_comes 147 = .ok (.getfield 51, 3) := by decide +kernel
theorem dX7_comes_150 : decode cX7_comes 150 = .ok (.iload_n 1, 1) := by decide +kernel
theorem dX7_comes_151 : decode cX7_comes 151 = .ok (.iaload, 1) := by decide +kernel
theorem dX7_comes_152 : decode cX7_comes 152 = .ok (.ifCond .ne 38, 3) := by decide +kernel
theorem dX7_comes_155 : decode cX7_comes 155 = .ok (.aload_n 0, 1) := by decide +kernel
theorem dX7_comes_156 : decode cX7_comes 156 = .ok (.getfield 51, 3) := by decide +kernel
theorem dX7_comes_159 : decode cX7_comes 159 = .ok (.iload_n 1, 1) := by decide +kernel
theorem dX7_comes_160 : decode cX7_comes 160 = .ok (.lload 4, 2) := by decide +kernel
theorem dX7_comes_162 : decode cX7_comes 162 = .ok (.ldc2_w 179, 3) := by decide +kernel
theorem dX7_comes_165 : decode cX7_comes 165 = .ok (.lcmp, 1) := by decide +kernel
theorem dX7_comes_166 : decode cX7_comes 166 = .ok (.ifCond .ne 14, 3) := by decide +kernel
theorem dX7_comes_169 : decode cX7_comes 169 = .ok (.aload_n 0, 1) := by decide +kernel
theorem dX7_comes_170 : decode cX7_comes 170 = .ok (.getfield 212, 3) := by decide +kernel
theorem dX7_comes_173 : decode cX7_comes 173 = .ok (.ifCond .eq 7, 3) := by decide +kernel
theorem dX7_comes_176 : decode cX7_comes 176 = .ok (.iconst 2, 1) := by decide +kernel
theorem dX7_comes_177 : decode cX7_comes 177 = .ok (.goto 4, 3) := by decide +kernel
theorem dX7_comes_180 : decode cX7_comes 180 = .ok (.iconst 1, 1) := by decide +kernel
theorem dX7_comes_181 : decode cX7_comes 181 = .ok (.iastore, 1) := by decide +kernel
theorem dX7_comes_182 : decode cX7_comes 182 = .ok (.aload_n 0, 1) := by decide +kernel
theorem dX7_comes_183 : decode cX7_comes 183 = .ok (.getfield 54, 3) := by decide +kernel
theorem dX7_comes_186 : decode cX7_comes 186 = .ok (.iload_n 1, 1) := by decide +kernel
theorem dX7_comes_187 : decode cX7_comes 187 = .ok (.lload 4, 2) := by decide +kernel
theorem dX7_comes_189 : decode cX7_comes 189 = .ok (.lastore, 1) := by decide +kernel
theorem dX7_comes_190 : decode cX7_comes 190 = .ok (.aload_n 0, 1) := by decide +kernel
theorem dX7_comes_191 : decode cX7_comes 191 = .ok (.iconst 0, 1) := by decide +kernel
theorem dX7_comes_192 : decode cX7_comes 192 = .ok (.putfield 117, 3) := by decide +kernel
theorem dX7_comes_195 : decode cX7_comes 195 = .ok (.iload 7, 2) := by decide +kernel
theorem dX7_comes_197 : decode cX7_comes 197 = .ok (.iconst 3, 1) := by decide +kernel
theorem dX7_comes_198 : decode cX7_comes 198 = .ok (.if_icmp .ge 21, 3) := by decide +kernel
theorem dX7_comes_201 : decode cX7_comes 201 = .ok (.aload_n 0, 1) := by decide +kernel
theorem dX7_comes_202 : decode cX7_comes 202 = .ok (.getfield 7, 3) := by decide +kernel
theorem dX7_comes_205 : decode cX7_comes 205 = .ok (.iload 8, 2) := by decide +kernel
theorem dX7_comes_207 : decode cX7_comes 207 = .ok (.iconst 1, 1) := by decide +kernel
theorem dX7_comes_208 : decode cX7_comes 208 = .ok (.bastore, 1) := by decide +kernel
theorem dX7_comes_209 : decode cX7_comes 209 = .ok (.aload_n 0, 1) := by decide +kernel
theorem dX7_comes_210 : decode cX7_comes 210 = .ok (.dup, 1) := by decide +kernel
theorem dX7_comes_211 : decode cX7_comes 211 = .ok (.getfield 215, 3) := by decide +kernel
theorem dX7_comes_214 : decode cX7_comes 214 = .ok (.iconst 1, 1) := by decide +kernel
theorem dX7_comes_215 : decode cX7_comes 215 = .ok (.iadd, 1) := by decide +kernel
theorem dX7_comes_216 : decode cX7_comes 216 = .ok (.putfield 215, 3) := by decide +kernel
theorem dX7_comes_219 : decode cX7_comes 219 = .ok (.return_, 1) := by decide +kernel
theorem dX7_removeLetter_0 : decode cX7_removeLetter 0 = .ok (.aload_n 0, 1) := by decide +kernel
theorem dX7_removeLetter_1 : decode cX7_removeLetter 1 = .ok (.dup, 1) := by decide +kernel
theorem dX7_removeLetter_2 : decode cX7_removeLetter 2 = .ok (.getfield 124, 3) := by decide +kernel
theorem dX7_removeLetter_5 : decode cX7_removeLetter 5 = .ok (.iconst 1, 1) := by decide +kernel
theorem dX7_removeLetter_6 : decode cX7_removeLetter 6 = .ok (.isub, 1) := by decide +kernel
theorem dX7_removeLetter_7 : decode cX7_removeLetter 7 = .ok (.putfield 124, 3) := by decide +kernel
theorem dX7_removeLetter_10 : decode cX7_removeLetter 10 = .ok (.iload_n 1, 1) := by decide +kernel
theorem dX7_removeLetter_11 : decode cX7_removeLetter 11 = .ok (.istore_n 2, 1) := by decide +kernel
theorem dX7_removeLetter_12 : decode cX7_removeLetter 12 = .ok (.iload_n 2, 1) := by decide +kernel
theorem dX7_removeLetter_13 : decode cX7_removeLetter 13 = .ok (.aload_n 0, 1) := by decide +kernel
theorem dX7_removeLetter_14 : decode cX7_removeLetter 14 = .ok (.getfield 124, 3) := by decide +kernel
theorem dX7_removeLetter_17 : decode cX7_removeLetter 17 = .ok (.if_icmp .ge 79, 3) := by decide +kernel
theorem dX7_removeLetter_20 : decode cX7_removeLetter 20 = .ok (.aload_n 0, 1) := by decide +kernel
theorem dX7_removeLetter_21 : decode cX7_removeLetter 21 = .ok (.getfield 66, 3) := by decide +kernel
theorem dX7_removeLetter_24 : decode cX7_removeLetter 24 = .ok (.iload_n 2, 1) := by decide +kernel
theorem dX7_removeLetter_25 : decode cX7_removeLetter 25 = .ok (.aload_n 0, 1) := by decide +kernel
theorem dX7_removeLetter_26 : decode cX7_removeLetter 26 = .ok (.getfield 66, 3) := by decide +kernel
theorem dX7_removeLetter_29 : decode cX7_removeLetter 29 = .ok (.iload_n 2, 1) := by decide +kernel
theorem dX7_removeLetter_30 : decode cX7_removeLetter 30 = .ok (.iconst 1, 1) := by decide +kernel
theorem dX7_removeLetter_31 : decode cX7_removeLetter 31 = .ok (.iadd, 1) := by decide +kernel
theorem dX7_removeLetter_32 : decode cX7_removeLetter 32 = .ok (.iaload, 1) := by decide +kernel
theorem dX7_removeLetter_33 : decode cX7_removeLetter 33 = .ok (.iastore, 1) := by decide +kernel
theorem dX7_removeLetter_34 : decode cX7_removeLetter 34 = .ok (.aload_n 0, 1) := by decide +kernel
theorem dX7_removeLetter_35 : decode cX7_removeLetter 35 = .ok (.getfield 69, 3) := by decide +kernel
theorem dX7_removeLetter_38 : decode cX7_removeLetter 38 = .ok (.iload_n 2, 1) := by decide +kernel
theorem dX7_removeLetter_39 : decode cX7_removeLetter 39 = .ok (.aload_n 0, 1) := by decide +kernel
theorem dX7_removeLetter_40 : decode cX7_removeLetter 40 = .ok (.getfield 69, 3) := by decide +kernel
theorem dX7_removeLetter_43 : decode cX7_removeLetter 43 = .ok (.iload_n 2, 1) := by decide +kernel
theorem dX7_removeLetter_44 : decode cX7_removeLetter 44 = .ok (.iconst 1, 1) := by decide +kernel
theorem dX7_removeLetter_45 : decode cX7_removeLetter 45 = .ok (.iadd, 1) := by decide +kernel
theorem dX7_removeLetter_46 : decode cX7_removeLetter 46 = .ok (.baload, 1) := by decide +kernel
theorem dX7_removeLetter_47 : decode cX7_removeLetter 47 = .ok (.bastore, 1) := by decide +kernel
theorem dX7_removeLetter_48 : decode cX7_removeLetter 48 = .ok (.aload_n 0, 1) := by decide +kernel
theorem dX7_removeLetter_49 : decode cX7_removeLetter 49 = .ok (.getfield 72, 3) := by decide +kernel
theorem dX7_removeLetter_52 : decode cX7_removeLetter 52 = .ok (.iload_n 2, 1) := by decide +kernel
theorem dX7_removeLetter_53 : decode cX7_removeLetter 53 = .ok (.aload_n 0, 1) := by decide +kernel
theorem dX7_removeLetter_54 : decode cX7_removeLetter 54 = .ok (.getfield 72, 3) := by decide +kernel
theorem dX7_removeLetter_57 : decode cX7_removeLetter 57 = .ok (.iload_n 2, 1) := by decide +kernel
theorem dX7_removeLetter_58 : decode cX7_removeLetter 58 = .ok (.iconst 1, 1) := by decide +kernel
theorem dX7_removeLetter_59 : decode cX7_removeLetter 59 = .ok (.iadd, 1) := by decide +kernel
theorem dX7_removeLetter_60 : decode cX7_removeLetter 60 = .ok (.iaload, 1) := by decide +kernel
theorem dX7_removeLetter_61 : decode cX7_removeLetter 61 = .ok (.iastore, 1) := by decide +kernel
theorem dX7_removeLetter_62 : decode cX7_removeLetter 62 = .ok (.aload_n 0, 1) := by decide +kernel
theorem dX7_removeLetter_63 : decode cX7_removeLetter 63 = .ok (.getfield 75, 3) := by decide +kernel
theorem dX7_removeLetter_66 : decode cX7_removeLetter 66 = .ok (.iload_n 2, 1) := by decide +kernel
theorem dX7_removeLetter_67 : decode cX7_removeLetter 67 = .ok (.aload_n 0, 1) := by decide +kernel
theorem dX7_removeLetter_68 : decode cX7_removeLetter 68 = .ok (.getfield 75, 3) := by decide +kernel
theorem dX7_removeLetter_71 : decode cX7_removeLetter 71 = .ok (.iload_n 2, 1) := by decide +kernel
theorem dX7_removeLetter_72 : decode cX7_removeLetter 72 = .ok (.iconst 1, 1) := by decide +kernel
theorem dX7_removeLetter_73 : decode cX7_removeLetter 73 = .ok (.iadd, 1) := by decide +kernel
theorem dX7_removeLetter_74 : decode cX7_removeLetter 74 = .ok (.laload, 1) := by decide +kernel
theorem dX7_removeLetter_75 : decode cX7_removeLetter 75 = .ok (.lastore, 1) := by decide +kernel
theorem dX7_removeLetter_76 : decode cX7_removeLetter 76 = .ok (.aload_n 0, 1) := by decide +kernel
theorem dX7_removeLetter_77 : decode cX7_removeLetter 77 = .ok (.getfield 78, 3) := by decide +kernel
theorem dX7_removeLetter_80 : decode cX7_removeLetter 80 = .ok (.iload_n 2, 1) := by decide +kernel
theorem dX7_removeLetter_81 : decode cX7_removeLetter 81 = .ok (.aload_n 0, 1) := by decide +kernel
theorem dX7_removeLetter_82 : decode cX7_removeLetter 82 = .ok (.getfield 78, 3) := by decide +kernel
theorem dX7_removeLetter_85 : decode cX7_removeLetter 85 = .ok (.iload_n 2, 1) := by decide +kernel
theorem dX7_removeLetter_86 : decode cX7_removeLetter 86 = .ok (.iconst 1, 1) := by decide +kernel
theorem dX7_removeLetter_87 : decode cX7_removeLetter 87 = .ok (.iadd, 1) := by decide +kernel
theorem dX7_removeLetter_88 : decode cX7_removeLetter 88 = .ok (.baload, 1) := by decide +kernel
theorem dX7_removeLetter_89 : decode cX7_removeLetter 89 = .ok (.bastore, 1) := by decide +kernel
theorem dX7_removeLetter_90 : decode cX7_removeLetter 90 = .ok (.iinc 2 1, 3) := by decide +kernel
theorem dX7_removeLetter_93 : decode cX7_removeLetter 93 = .ok (.goto (-81), 3) := by decide +kernel
theorem dX7_removeLetter_96 : decode cX7_removeLetter 96 = .ok (.return_, 1) := by decide +kernel
theorem dX7_brings_0 : decode cX7_brings 0 = .ok (.aload_n 0, 1) := by decide +kernel
theorem dX7_brings_1 : decode cX7_brings 1 = .ok (.getfield 66, 3) := by decide +kernel
theorem dX7_brings_4 : decode cX7_brings 4 = .ok (.iload_n 1, 1) := by decide +kernel
theorem dX7_brings_5 : decode cX7_brings 5 = .ok (.iaload, 1) := by decide +kernel
theorem dX7_brings_6 : decode cX7_brings 6 = .ok (.istore_n 3, 1) := by decide +kernel
theorem dX7_brings_7 : decode cX7_brings 7 = .ok (.aload_n 0, 1) := by decide +kernel
theorem dX7_brings_8 : decode cX7_brings 8 = .ok (.getfield 69, 3) := by decide +kernel
theorem dX7_brings_11 : decode cX7_brings 11 = .ok (.iload_n 1, 1) := by decide +kernel
theorem dX7_brings_12 : decode cX7_brings 12 = .ok (.baload, 1) := by decide +kernel
theorem dX7_brings_13 : decode cX7_brings 13 = .ok (.istore 4, 2) := by decide +kernel
theorem dX7_brings_15 : decode cX7_brings 15 = .ok (.aload_n 0, 1) := by decide +kernel
theorem dX7_brings_16 : decode cX7_brings 16 = .ok (.getfield 72, 3) := by decide +kernel
theorem dX7_brings_19 : decode cX7_brings 19 = .ok (.iload_n 1, 1) := by decide +kernel
theorem dX7_brings_20 : decode cX7_brings 20 = .ok (.iaload, 1) := by decide +kernel
theorem dX7_brings_21 : decode cX7_brings 21 = .ok (.istore 5, 2) := by decide +kernel
theorem dX7_brings_23 : decode cX7_brings 23 = .ok (.aload_n 0, 1) := by decide +kernel
theorem dX7_brings_24 : decode cX7_brings 24 = .ok (.getfield 75, 3) := by decide +kernel
theorem dX7_brings_27 : decode cX7_brings 27 = .ok (.iload_n 1, 1) := by decide +kernel
theorem dX7_brings_28 : decode cX7_brings 28 = .ok (.laload, 1) := by decide +kernel
theorem dX7_brings_29 : decode cX7_brings 29 = .ok (.lstore 6, 2) := by decide +kernel
theorem dX7_brings_31 : decode cX7_brings 31 = .ok (.aload_n 0, 1) := by decide +kernel
theorem dX7_brings_32 : decode cX7_brings 32 = .ok (.getfield 78, 3) := by decide +kernel
theorem dX7_brings_35 : decode cX7_brings 35 = .ok (.iload_n 1, 1) := by decide +kernel
theorem dX7_brings_36 : decode cX7_brings 36 = .ok (.baload, 1) := by decide +kernel
theorem dX7_brings_37 : decode cX7_brings 37 = .ok (.istore 8, 2) := by decide +kernel
theorem dX7_brings_39 : decode cX7_brings 39 = .ok (.aload_n 0, 1) := by decide +kernel
theorem dX7_brings_40 : decode cX7_brings 40 = .ok (.iload 4, 2) := by decide +kernel
theorem dX7_brings_42 : decode cX7_brings 42 = .ok (.ifCond .eq 16, 3) := by decide +kernel
theorem dX7_brings_45 : decode cX7_brings 45 = .ok (.lload 6, 2) := by decide +kernel
theorem dX7_brings_47 : decode cX7_brings 47 = .ok (.ldc2_w 179, 3) := by decide +kernel
theorem dX7_brings_50 : decode cX7_brings 50 = .ok (.lcmp, 1) := by decide +kernel
theorem dX7_brings_51 : decode cX7_brings 51 = .ok (.ifCond .ne 7, 3) := by decide +kernel
theorem dX7_brings_54 : decode cX7_brings 54 = .ok (.iconst 1, 1) := by decide +kernel
theorem dX7_brings_55 : decode cX7_brings 55 = .ok (.goto 4, 3) := by decide +kernel
theorem dX7_brings_58 : decode cX7_brings 58 = .ok (.iconst 0, 1) := by decide +kernel
theorem dX7_brings_59 : decode cX7_brings 59 = .ok (.putfield 212, 3) := by decide +kernel
theorem dX7_brings_62 : decode cX7_brings 62 = .ok (.aload_n 0, 1) := by decide +kernel
theorem dX7_brings_63 : decode cX7_brings 63 = .ok (.iload_n 1, 1) := by decide +kernel
theorem dX7_brings_64 : decode cX7_brings 64 = .ok (.invokevirtual 218, 3) := by decide +kernel
theorem dX7_brings_67 : decode cX7_brings 67 = .ok (.aload_n 0, 1) := by decide +kernel
theorem dX7_brings_68 : decode cX7_brings 68 = .ok (.dup, 1) := by decide +kernel
theorem dX7_brings_69 : decode cX7_brings 69 = .ok (.getfield 222, 3) := by decide +kernel
theorem dX7_brings_72 : decode cX7_brings 72 = .ok (.iconst 1, 1) := by decide +kernel
theorem dX7_brings_73 : decode cX7_brings 73 = .ok (.iadd, 1) := by decide +kernel
theorem dX7_brings_74 : decode cX7_brings 74 = .ok (.putfield 222, 3) := by decide +kernel
theorem dX7_brings_77 : decode cX7_brings 77 = .ok (.aload_n 0, 1) := by decide +kernel
theorem dX7_brings_78 : decode cX7_brings 78 = .ok (.iconst 0, 1) := by decide +kernel
theorem dX7_brings_79 : decode cX7_brings 79 = .ok (.putfield 121, 3) := by decide +kernel
theorem dX7_brings_82 : decode cX7_brings 82 = .ok (.aload_n 0, 1) := by decide +kernel
theorem dX7_brings_83 : decode cX7_brings 83 = .ok (.iload_n 3, 1) := by decide +kernel
theorem dX7_brings_84 : decode cX7_brings 84 = .ok (.iload 4, 2) := by decide +kernel
theorem dX7_brings_86 : decode cX7_brings 86 = .ok (.iload 5, 2) := by decide +kernel
theorem dX7_brings_88 : decode cX7_brings 88 = .ok (.lload 6, 2) := by decide +kernel
theorem dX7_brings_90 : decode cX7_brings 90 = .ok (.iload 8, 2) := by decide +kernel
theorem dX7_brings_92 : decode cX7_brings 92 = .ok (.iload_n 2, 1) := by decide +kernel
theorem dX7_brings_93 : decode cX7_brings 93 = .ok (.invokevirtual 225, 3) := by decide +kernel
theorem dX7_brings_96 : decode cX7_brings 96 = .ok (.return_, 1) := by decide +kernel
theorem dX7_isLetter_0 : decode cX7_isLetter 0 = .ok (.iload_n 1, 1) := by decide +kernel
theorem dX7_isLetter_1 : decode cX7_isLetter 1 = .ok (.i2l, 1) := by decide +kernel
theorem dX7_isLetter_2 : decode cX7_isLetter 2 = .ok (.lconst 0, 1) := by decide +kernel
theorem dX7_isLetter_3 : decode cX7_isLetter 3 = .ok (.aload_n 0, 1) := by decide +kernel
theorem dX7_isLetter_4 : decode cX7_isLetter 4 = .ok (.getfield 124, 3) := by decide +kernel
theorem dX7_isLetter_7 : decode cX7_isLetter 7 = .ok (.iconst 1, 1) := by decide +kernel
theorem dX7_isLetter_8 : decode cX7_isLetter 8 = .ok (.isub, 1) := by decide +kernel
theorem dX7_isLetter_9 : decode cX7_isLetter 9 = .ok (.i2l, 1) := by decide +kernel
theorem dX7_isLetter_10 : decode cX7_isLetter 10 = .ok (.invokestatic 109, 3) := by decide +kernel
theorem dX7_isLetter_13 : decode cX7_isLetter 13 = .ok (.ireturn, 1) := by decide +kernel
theorem dX7_deliver_0 : decode cX7_deliver 0 = .ok (.aload_n 0, 1) := by decide +kernel
theorem dX7_deliver_1 : decode cX7_deliver 1 = .ok (.iload_n 1, 1) := by decide +kernel
theorem dX7_deliver_2 : decode cX7_deliver 2 = .ok (.invokevirtual 229, 3) := by decide +kernel
theorem dX7_deliver_5 : decode cX7_deliver 5 = .ok (.ifCond .eq 15, 3) := by decide +kernel
theorem dX7_deliver_8 : decode cX7_deliver 8 = .ok (.iload_n 2, 1) := by decide +kernel
theorem dX7_deliver_9 : decode cX7_deliver 9 = .ok (.i2l, 1) := by decide +kernel
theorem dX7_deliver_10 : decode cX7_deliver 10 = .ok (.lconst 0, 1) := by decide +kernel
theorem dX7_deliver_11 : decode cX7_deliver 11 = .ok (.ldc2_w 132, 3) := by decide +kernel
theorem dX7_deliver_14 : decode cX7_deliver 14 = .ok (.invokestatic 109, 3) := by decide +kernel
theorem dX7_deliver_17 : decode cX7_deliver 17 = .ok (.ifCond .ne 6, 3) := by decide +kernel
theorem dX7_deliver_20 : decode cX7_deliver 20 = .ok (.ldc 140, 2) := by decide +kernel
theorem dX7_deliver_22 : decode cX7_deliver 22 = .ok (.ireturn, 1) := by decide +kernel
theorem dX7_deliver_23 : decode cX7_deliver 23 = .ok (.aload_n 0, 1) := by decide +kernel
theorem dX7_deliver_24 : decode cX7_deliver 24 = .ok (.iload_n 1, 1) := by decide +kernel
theorem dX7_deliver_25 : decode cX7_deliver 25 = .ok (.iload_n 2, 1) := by decide +kernel
theorem dX7_deliver_26 : decode cX7_deliver 26 = .ok (.invokevirtual 232, 3) := by decide +kernel
theorem dX7_deliver_29 : decode cX7_deliver 29 = .ok (.aload_n 0, 1) := by decide +kernel
theorem dX7_deliver_30 : decode cX7_deliver 30 = .ok (.getfield 121, 3) := by decide +kernel
theorem dX7_deliver_33 : decode cX7_deliver 33 = .ok (.ireturn, 1) := by decide +kernel
theorem dX7_lose_0 : decode cX7_lose 0 = .ok (.aload_n 0, 1) := by decide +kernel
theorem dX7_lose_1 : decode cX7_lose 1 = .ok (.iload_n 1, 1) := by decide +kernel
theorem dX7_lose_2 : decode cX7_lose 2 = .ok (.invokevirtual 229, 3) := by decide +kernel
theorem dX7_lose_5 : decode cX7_lose 5 = .ok (.ifCond .ne 6, 3) := by decide +kernel
theorem dX7_lose_8 : decode cX7_lose 8 = .ok (.ldc 140, 2) := by decide +kernel
theorem dX7_lose_10 : decode cX7_lose 10 = .ok (.ireturn, 1) := by decide +kernel
theorem dX7_lose_11 : decode cX7_lose 11 = .ok (.aload_n 0, 1) := by decide +kernel
theorem dX7_lose_12 : decode cX7_lose 12 = .ok (.iload_n 1, 1) := by decide +kernel
theorem dX7_lose_13 : decode cX7_lose 13 = .ok (.invokevirtual 218, 3) := by decide +kernel
theorem dX7_lose_16 : decode cX7_lose 16 = .ok (.aload_n 0, 1) := by decide +kernel
theorem dX7_lose_17 : decode cX7_lose 17 = .ok (.dup, 1) := by decide +kernel
theorem dX7_lose_18 : decode cX7_lose 18 = .ok (.getfield 127, 3) := by decide +kernel
theorem dX7_lose_21 : decode cX7_lose 21 = .ok (.iconst 1, 1) := by decide +kernel
theorem dX7_lose_22 : decode cX7_lose 22 = .ok (.iadd, 1) := by decide +kernel
theorem dX7_lose_23 : decode cX7_lose 23 = .ok (.putfield 127, 3) := by decide +kernel
theorem dX7_lose_26 : decode cX7_lose 26 = .ok (.aload_n 0, 1) := by decide +kernel
theorem dX7_lose_27 : decode cX7_lose 27 = .ok (.getfield 124, 3) := by decide +kernel
theorem dX7_lose_30 : decode cX7_lose 30 = .ok (.ireturn, 1) := by decide +kernel
theorem dX7_twice_0 : decode cX7_twice 0 = .ok (.aload_n 0, 1) := by decide +kernel
theorem dX7_twice_1 : decode cX7_twice 1 = .ok (.iload_n 1, 1) := by decide +kernel
theorem dX7_twice_2 : decode cX7_twice 2 = .ok (.invokevirtual 229, 3) := by decide +kernel
theorem dX7_twice_5 : decode cX7_twice 5 = .ok (.ifCond .ne 6, 3) := by decide +kernel
theorem dX7_twice_8 : decode cX7_twice 8 = .ok (.ldc 140, 2) := by decide +kernel
theorem dX7_twice_10 : decode cX7_twice 10 = .ok (.ireturn, 1) := by decide +kernel
theorem dX7_twice_11 : decode cX7_twice 11 = .ok (.aload_n 0, 1) := by decide +kernel
theorem dX7_twice_12 : decode cX7_twice 12 = .ok (.getfield 124, 3) := by decide +kernel
theorem dX7_twice_15 : decode cX7_twice 15 = .ok (.bipush 120, 2) := by decide +kernel
theorem dX7_twice_17 : decode cX7_twice 17 = .ok (.if_icmp .ne 6, 3) := by decide +kernel
theorem dX7_twice_20 : decode cX7_twice 20 = .ok (.ldc 146, 2) := by decide +kernel
theorem dX7_twice_22 : decode cX7_twice 22 = .ok (.ireturn, 1) := by decide +kernel
theorem dX7_twice_23 : decode cX7_twice 23 = .ok (.aload_n 0, 1) := by decide +kernel
theorem dX7_twice_24 : decode cX7_twice 24 = .ok (.getfield 66, 3) := by decide +kernel
theorem dX7_twice_27 : decode cX7_twice 27 = .ok (.aload_n 0, 1) := by decide +kernel
theorem dX7_twice_28 : decode cX7_twice 28 = .ok (.getfield 124, 3) := by decide +kernel
theorem dX7_twice_31 : decode cX7_twice 31 = .ok (.aload_n 0, 1) := by decide +kernel
theorem dX7_twice_32 : decode cX7_twice 32 = .ok (.getfield 66, 3) := by decide +kernel
theorem dX7_twice_35 : decode cX7_twice 35 = .ok (.iload_n 1, 1) := by decide +kernel
theorem dX7_twice_36 : decode cX7_twice 36 = .ok (.iaload, 1) := by decide +kernel
theorem dX7_twice_37 : decode cX7_twice 37 = .ok (.iastore, 1) := by decide +kernel
theorem dX7_twice_38 : decode cX7_twice 38 = .ok (.aload_n 0, 1) := by decide +kernel
theorem dX7_twice_39 : decode cX7_twice 39 = .ok (.getfield 69, 3) := by decide +kernel
theorem dX7_twice_42 : decode cX7_twice 42 = .ok (.aload_n 0, 1) := by decide +kernel
theorem dX7_twice_43 : decode cX7_twice 43 = .ok (.getfield 124, 3) := by decide +kernel
theorem dX7_twice_46 : decode cX7_twice 46 = .ok (.aload_n 0, 1) := by decide +kernel
theorem dX7_twice_47 : decode cX7_twice 47 = .ok (.getfield 69, 3) := by decide +kernel
theorem dX7_twice_50 : decode cX7_twice 50 = .ok (.iload_n 1, 1) := by decide +kernel
theorem dX7_twice_51 : decode cX7_twice 51 = .ok (.baload, 1) := by decide +kernel
theorem dX7_twice_52 : decode cX7_twice 52 = .ok (.bastore, 1) := by decide +kernel
theorem dX7_twice_53 : decode cX7_twice 53 = .ok (.aload_n 0, 1) := by decide +kernel
theorem dX7_twice_54 : decode cX7_twice 54 = .ok (.getfield 72, 3) := by decide +kernel
theorem dX7_twice_57 : decode cX7_twice 57 = .ok (.aload_n 0, 1) := by decide +kernel
theorem dX7_twice_58 : decode cX7_twice 58 = .ok (.getfield 124, 3) := by decide +kernel
theorem dX7_twice_61 : decode cX7_twice 61 = .ok (.aload_n 0, 1) := by decide +kernel
theorem dX7_twice_62 : decode cX7_twice 62 = .ok (.getfield 72, 3) := by decide +kernel
theorem dX7_twice_65 : decode cX7_twice 65 = .ok (.iload_n 1, 1) := by decide +kernel
theorem dX7_twice_66 : decode cX7_twice 66 = .ok (.iaload, 1) := by decide +kernel
theorem dX7_twice_67 : decode cX7_twice 67 = .ok (.iastore, 1) := by decide +kernel
theorem dX7_twice_68 : decode cX7_twice 68 = .ok (.aload_n 0, 1) := by decide +kernel
theorem dX7_twice_69 : decode cX7_twice 69 = .ok (.getfield 75, 3) := by decide +kernel
theorem dX7_twice_72 : decode cX7_twice 72 = .ok (.aload_n 0, 1) := by decide +kernel
theorem dX7_twice_73 : decode cX7_twice 73 = .ok (.getfield 124, 3) := by decide +kernel
theorem dX7_twice_76 : decode cX7_twice 76 = .ok (.aload_n 0, 1) := by decide +kernel
theorem dX7_twice_77 : decode cX7_twice 77 = .ok (.getfield 75, 3) := by decide +kernel
theorem dX7_twice_80 : decode cX7_twice 80 = .ok (.iload_n 1, 1) := by decide +kernel
theorem dX7_twice_81 : decode cX7_twice 81 = .ok (.laload, 1) := by decide +kernel
theorem dX7_twice_82 : decode cX7_twice 82 = .ok (.lastore, 1) := by decide +kernel
theorem dX7_twice_83 : decode cX7_twice 83 = .ok (.aload_n 0, 1) := by decide +kernel
theorem dX7_twice_84 : decode cX7_twice 84 = .ok (.getfield 78, 3) := by decide +kernel
theorem dX7_twice_87 : decode cX7_twice 87 = .ok (.aload_n 0, 1) := by decide +kernel
theorem dX7_twice_88 : decode cX7_twice 88 = .ok (.getfield 124, 3) := by decide +kernel
theorem dX7_twice_91 : decode cX7_twice 91 = .ok (.aload_n 0, 1) := by decide +kernel
theorem dX7_twice_92 : decode cX7_twice 92 = .ok (.getfield 78, 3) := by decide +kernel
theorem dX7_twice_95 : decode cX7_twice 95 = .ok (.iload_n 1, 1) := by decide +kernel
theorem dX7_twice_96 : decode cX7_twice 96 = .ok (.baload, 1) := by decide +kernel
theorem dX7_twice_97 : decode cX7_twice 97 = .ok (.bastore, 1) := by decide +kernel
theorem dX7_twice_98 : decode cX7_twice 98 = .ok (.aload_n 0, 1) := by decide +kernel
theorem dX7_twice_99 : decode cX7_twice 99 = .ok (.dup, 1) := by decide +kernel
theorem dX7_twice_100 : decode cX7_twice 100 = .ok (.getfield 124, 3) := by decide +kernel
theorem dX7_twice_103 : decode cX7_twice 103 = .ok (.iconst 1, 1) := by decide +kernel
theorem dX7_twice_104 : decode cX7_twice 104 = .ok (.iadd, 1) := by decide +kernel
theorem dX7_twice_105 : decode cX7_twice 105 = .ok (.putfield 124, 3) := by decide +kernel
theorem dX7_twice_108 : decode cX7_twice 108 = .ok (.aload_n 0, 1) := by decide +kernel
theorem dX7_twice_109 : decode cX7_twice 109 = .ok (.getfield 124, 3) := by decide +kernel
theorem dX7_twice_112 : decode cX7_twice 112 = .ok (.ireturn, 1) := by decide +kernel
theorem dX7_bend_0 : decode cX7_bend 0 = .ok (.aload_n 0, 1) := by decide +kernel
theorem dX7_bend_1 : decode cX7_bend 1 = .ok (.iload_n 1, 1) := by decide +kernel
theorem dX7_bend_2 : decode cX7_bend 2 = .ok (.invokevirtual 229, 3) := by decide +kernel
theorem dX7_bend_5 : decode cX7_bend 5 = .ok (.ifCond .ne 6, 3) := by decide +kernel
theorem dX7_bend_8 : decode cX7_bend 8 = .ok (.ldc 140, 2) := by decide +kernel
theorem dX7_bend_10 : decode cX7_bend 10 = .ok (.ireturn, 1) := by decide +kernel
theorem dX7_bend_11 : decode cX7_bend 11 = .ok (.aload_n 0, 1) := by decide +kernel
theorem dX7_bend_12 : decode cX7_bend 12 = .ok (.getfield 78, 3) := by decide +kernel
theorem dX7_bend_15 : decode cX7_bend 15 = .ok (.iload_n 1, 1) := by decide +kernel
theorem dX7_bend_16 : decode cX7_bend 16 = .ok (.baload, 1) := by decide +kernel
theorem dX7_bend_17 : decode cX7_bend 17 = .ok (.ifCond .eq 7, 3) := by decide +kernel
theorem dX7_bend_20 : decode cX7_bend 20 = .ok (.iconst 0, 1) := by decide +kernel
theorem dX7_bend_21 : decode cX7_bend 21 = .ok (.goto 4, 3) := by decide +kernel
theorem dX7_bend_24 : decode cX7_bend 24 = .ok (.iconst 1, 1) := by decide +kernel
theorem dX7_bend_25 : decode cX7_bend 25 = .ok (.istore_n 2, 1) := by decide +kernel
theorem dX7_bend_26 : decode cX7_bend 26 = .ok (.aload_n 0, 1) := by decide +kernel
theorem dX7_bend_27 : decode cX7_bend 27 = .ok (.getfield 78, 3) := by decide +kernel
theorem dX7_bend_30 : decode cX7_bend 30 = .ok (.iload_n 1, 1) := by decide +kernel
theorem dX7_bend_31 : decode cX7_bend 31 = .ok (.iconst 1, 1) := by decide +kernel
theorem dX7_bend_32 : decode cX7_bend 32 = .ok (.bastore, 1) := by decide +kernel
theorem dX7_bend_33 : decode cX7_bend 33 = .ok (.iload_n 2, 1) := by decide +kernel
theorem dX7_bend_34 : decode cX7_bend 34 = .ok (.ireturn, 1) := by decide +kernel
theorem dX7_letter_0 : decode cX7_letter 0 = .ok (.iload_n 2, 1) := by decide +kernel
theorem dX7_letter_1 : decode cX7_letter 1 = .ok (.i2l, 1) := by decide +kernel
theorem dX7_letter_2 : decode cX7_letter 2 = .ok (.lconst 0, 1) := by decide +kernel
theorem dX7_letter_3 : decode cX7_letter 3 = .ok (.ldc2_w 134, 3) := by decide +kernel
theorem dX7_letter_6 : decode cX7_letter 6 = .ok (.invokestatic 109, 3) := by decide +kernel
theorem dX7_letter_9 : decode cX7_letter 9 = .ok (.ifCond .ne 6, 3) := by decide +kernel
theorem dX7_letter_12 : decode cX7_letter 12 = .ok (.ldc 140, 2) := by decide +kernel
theorem dX7_letter_14 : decode cX7_letter 14 = .ok (.ireturn, 1) := by decide +kernel
theorem dX7_letter_15 : decode cX7_letter 15 = .ok (.aload_n 0, 1) := by decide +kernel
theorem dX7_letter_16 : decode cX7_letter 16 = .ok (.iload_n 1, 1) := by decide +kernel
theorem dX7_letter_17 : decode cX7_letter 17 = .ok (.invokevirtual 229, 3) := by decide +kernel
theorem dX7_letter_20 : decode cX7_letter 20 = .ok (.ifCond .ne 5, 3) := by decide +kernel
theorem dX7_letter_23 : decode cX7_letter 23 = .ok (.iconst (-1), 1) := by decide +kernel
theorem dX7_letter_24 : decode cX7_letter 24 = .ok (.ireturn, 1) := by decide +kernel
theorem dX7_letter_25 : decode cX7_letter 25 = .ok (.iload_n 2, 1) := by decide +kernel
theorem dX7_letter_26 : decode cX7_letter 26 = .ok (.tableswitch 74 0 3 #[30, 37, 52, 59], 30) := by decide +kernel
theorem dX7_letter_56 : decode cX7_letter 56 = .ok (.aload_n 0, 1) := by decide +kernel
theorem dX7_letter_57 : decode cX7_letter 57 = .ok (.getfield 66, 3) := by decide +kernel
theorem dX7_letter_60 : decode cX7_letter 60 = .ok (.iload_n 1, 1) := by decide +kernel
theorem dX7_letter_61 : decode cX7_letter 61 = .ok (.iaload, 1) := by decide +kernel
theorem dX7_letter_62 : decode cX7_letter 62 = .ok (.ireturn, 1) := by decide +kernel
theorem dX7_letter_63 : decode cX7_letter 63 = .ok (.aload_n 0, 1) := by decide +kernel
theorem dX7_letter_64 : decode cX7_letter 64 = .ok (.getfield 69, 3) := by decide +kernel
theorem dX7_letter_67 : decode cX7_letter 67 = .ok (.iload_n 1, 1) := by decide +kernel
theorem dX7_letter_68 : decode cX7_letter 68 = .ok (.baload, 1) := by decide +kernel
theorem dX7_letter_69 : decode cX7_letter 69 = .ok (.ifCond .eq 7, 3) := by decide +kernel
theorem dX7_letter_72 : decode cX7_letter 72 = .ok (.iconst 1, 1) := by decide +kernel
theorem dX7_letter_73 : decode cX7_letter 73 = .ok (.goto 4, 3) := by decide +kernel
theorem dX7_letter_76 : decode cX7_letter 76 = .ok (.iconst 0, 1) := by decide +kernel
theorem dX7_letter_77 : decode cX7_letter 77 = .ok (.ireturn, 1) := by decide +kernel
theorem dX7_letter_78 : decode cX7_letter 78 = .ok (.aload_n 0, 1) := by decide +kernel
theorem dX7_letter_79 : decode cX7_letter 79 = .ok (.getfield 72, 3) := by decide +kernel
theorem dX7_letter_82 : decode cX7_letter 82 = .ok (.iload_n 1, 1) := by decide +kernel
theorem dX7_letter_83 : decode cX7_letter 83 = .ok (.iaload, 1) := by decide +kernel
theorem dX7_letter_84 : decode cX7_letter 84 = .ok (.ireturn, 1) := by decide +kernel
theorem dX7_letter_85 : decode cX7_letter 85 = .ok (.aload_n 0, 1) := by decide +kernel
theorem dX7_letter_86 : decode cX7_letter 86 = .ok (.getfield 78, 3) := by decide +kernel
theorem dX7_letter_89 : decode cX7_letter 89 = .ok (.iload_n 1, 1) := by decide +kernel
theorem dX7_letter_90 : decode cX7_letter 90 = .ok (.baload, 1) := by decide +kernel
theorem dX7_letter_91 : decode cX7_letter 91 = .ok (.ifCond .eq 7, 3) := by decide +kernel
theorem dX7_letter_94 : decode cX7_letter 94 = .ok (.iconst 1, 1) := by decide +kernel
theorem dX7_letter_95 : decode cX7_letter 95 = .ok (.goto 4, 3) := by decide +kernel
theorem dX7_letter_98 : decode cX7_letter 98 = .ok (.iconst 0, 1) := by decide +kernel
theorem dX7_letter_99 : decode cX7_letter 99 = .ok (.ireturn, 1) := by decide +kernel
theorem dX7_letter_100 : decode cX7_letter 100 = .ok (.aload_n 0, 1) := by decide +kernel
theorem dX7_letter_101 : decode cX7_letter 101 = .ok (.getfield 69, 3) := by decide +kernel
theorem dX7_letter_104 : decode cX7_letter 104 = .ok (.iload_n 1, 1) := by decide +kernel
theorem dX7_letter_105 : decode cX7_letter 105 = .ok (.baload, 1) := by decide +kernel
theorem dX7_letter_106 : decode cX7_letter 106 = .ok (.ifCond .eq 20, 3) := by decide +kernel
theorem dX7_letter_109 : decode cX7_letter 109 = .ok (.aload_n 0, 1) := by decide +kernel
theorem dX7_letter_110 : decode cX7_letter 110 = .ok (.getfield 75, 3) := by decide +kernel
theorem dX7_letter_113 : decode cX7_letter 113 = .ok (.iload_n 1, 1) := by decide +kernel
theorem dX7_letter_114 : decode cX7_letter 114 = .ok (.laload, 1) := by decide +kernel
theorem dX7_letter_115 : decode cX7_letter 115 = .ok (.ldc2_w 179, 3) := by decide +kernel
theorem dX7_letter_118 : decode cX7_letter 118 = .ok (.lcmp, 1) := by decide +kernel
theorem dX7_letter_119 : decode cX7_letter 119 = .ok (.ifCond .ne 7, 3) := by decide +kernel
theorem dX7_letter_122 : decode cX7_letter 122 = .ok (.iconst 1, 1) := by decide +kernel
theorem dX7_letter_123 : decode cX7_letter 123 = .ok (.goto 4, 3) := by decide +kernel
theorem dX7_letter_126 : decode cX7_letter 126 = .ok (.iconst 0, 1) := by decide +kernel
theorem dX7_letter_127 : decode cX7_letter 127 = .ok (.ireturn, 1) := by decide +kernel
theorem dX7_flow_0 : decode cX7_flow 0 = .ok (.iload_n 1, 1) := by decide +kernel
theorem dX7_flow_1 : decode cX7_flow 1 = .ok (.i2l, 1) := by decide +kernel
theorem dX7_flow_2 : decode cX7_flow 2 = .ok (.lconst 1, 1) := by decide +kernel
theorem dX7_flow_3 : decode cX7_flow 3 = .ok (.ldc2_w 235, 3) := by decide +kernel
theorem dX7_flow_6 : decode cX7_flow 6 = .ok (.invokestatic 109, 3) := by decide +kernel
theorem dX7_flow_9 : decode cX7_flow 9 = .ok (.ifCond .ne 6, 3) := by decide +kernel
theorem dX7_flow_12 : decode cX7_flow 12 = .ok (.ldc 140, 2) := by decide +kernel
theorem dX7_flow_14 : decode cX7_flow 14 = .ok (.ireturn, 1) := by decide +kernel
theorem dX7_flow_15 : decode cX7_flow 15 = .ok (.iconst 0, 1) := by decide +kernel
theorem dX7_flow_16 : decode cX7_flow 16 = .ok (.istore_n 2, 1) := by decide +kernel
theorem dX7_flow_17 : decode cX7_flow 17 = .ok (.iload_n 2, 1) := by decide +kernel
theorem dX7_flow_18 : decode cX7_flow 18 = .ok (.iload_n 1, 1) := by decide +kernel
theorem dX7_flow_19 : decode cX7_flow 19 = .ok (.if_icmp .ge 22, 3) := by decide +kernel
theorem dX7_flow_22 : decode cX7_flow 22 = .ok (.aload_n 0, 1) := by decide +kernel
theorem dX7_flow_23 : decode cX7_flow 23 = .ok (.getfield 124, 3) := by decide +kernel
theorem dX7_flow_26 : decode cX7_flow 26 = .ok (.ifCond .le 15, 3) := by decide +kernel
theorem dX7_flow_29 : decode cX7_flow 29 = .ok (.aload_n 0, 1) := by decide +kernel
theorem dX7_flow_30 : decode cX7_flow 30 = .ok (.iconst 0, 1) := by decide +kernel
theorem dX7_flow_31 : decode cX7_flow 31 = .ok (.iconst 3, 1) := by decide +kernel
theorem dX7_flow_32 : decode cX7_flow 32 = .ok (.invokevirtual 232, 3) := by decide +kernel
theorem dX7_flow_35 : decode cX7_flow 35 = .ok (.iinc 2 1, 3) := by decide +kernel
theorem dX7_flow_38 : decode cX7_flow 38 = .ok (.goto (-21), 3) := by decide +kernel
theorem dX7_flow_41 : decode cX7_flow 41 = .ok (.iload_n 2, 1) := by decide +kernel
theorem dX7_flow_42 : decode cX7_flow 42 = .ok (.ireturn, 1) := by decide +kernel
theorem dX7_fall_0 : decode cX7_fall 0 = .ok (.iload_n 1, 1) := by decide +kernel
theorem dX7_fall_1 : decode cX7_fall 1 = .ok (.i2l, 1) := by decide +kernel
theorem dX7_fall_2 : decode cX7_fall 2 = .ok (.lconst 0, 1) := by decide +kernel
theorem dX7_fall_3 : decode cX7_fall 3 = .ok (.ldc2_w 162, 3) := by decide +kernel
theorem dX7_fall_6 : decode cX7_fall 6 = .ok (.invokestatic 109, 3) := by decide +kernel
theorem dX7_fall_9 : decode cX7_fall 9 = .ok (.ifCond .ne 6, 3) := by decide +kernel
theorem dX7_fall_12 : decode cX7_fall 12 = .ok (.ldc 140, 2) := by decide +kernel
theorem dX7_fall_14 : decode cX7_fall 14 = .ok (.ireturn, 1) := by decide +kernel
theorem dX7_fall_15 : decode cX7_fall 15 = .ok (.aload_n 0, 1) := by decide +kernel
theorem dX7_fall_16 : decode cX7_fall 16 = .ok (.getfield 7, 3) := by decide +kernel
theorem dX7_fall_19 : decode cX7_fall 19 = .ok (.iload_n 1, 1) := by decide +kernel
theorem dX7_fall_20 : decode cX7_fall 20 = .ok (.baload, 1) := by decide +kernel
theorem dX7_fall_21 : decode cX7_fall 21 = .ok (.ifCond .eq 6, 3) := by decide +kernel
theorem dX7_fall_24 : decode cX7_fall 24 = .ok (.ldc 141, 2) := by decide +kernel
theorem dX7_fall_26 : decode cX7_fall 26 = .ok (.ireturn, 1) := by decide +kernel
theorem dX7_fall_27 : decode cX7_fall 27 = .ok (.aload_n 0, 1) := by decide +kernel
theorem dX7_fall_28 : decode cX7_fall 28 = .ok (.getfield 7, 3) := by decide +kernel
theorem dX7_fall_31 : decode cX7_fall 31 = .ok (.iload_n 1, 1) := by decide +kernel
theorem dX7_fall_32 : decode cX7_fall 32 = .ok (.iconst 1, 1) := by decide +kernel
theorem dX7_fall_33 : decode cX7_fall 33 = .ok (.bastore, 1) := by decide +kernel
theorem dX7_fall_34 : decode cX7_fall 34 = .ok (.aload_n 0, 1) := by decide +kernel
theorem dX7_fall_35 : decode cX7_fall 35 = .ok (.dup, 1) := by decide +kernel
theorem dX7_fall_36 : decode cX7_fall 36 = .ok (.getfield 215, 3) := by decide +kernel
theorem dX7_fall_39 : decode cX7_fall 39 = .ok (.iconst 1, 1) := by decide +kernel
theorem dX7_fall_40 : decode cX7_fall 40 = .ok (.iadd, 1) := by decide +kernel
theorem dX7_fall_41 : decode cX7_fall 41 = .ok (.putfield 215, 3) := by decide +kernel
theorem dX7_fall_44 : decode cX7_fall 44 = .ok (.iconst 1, 1) := by decide +kernel
theorem dX7_fall_45 : decode cX7_fall 45 = .ok (.ireturn, 1) := by decide +kernel
theorem dX7_rise_0 : decode cX7_rise 0 = .ok (.iload_n 1, 1) := by decide +kernel
theorem dX7_rise_1 : decode cX7_rise 1 = .ok (.i2l, 1) := by decide +kernel
theorem dX7_rise_2 : decode cX7_rise 2 = .ok (.lconst 0, 1) := by decide +kernel
theorem dX7_rise_3 : decode cX7_rise 3 = .ok (.ldc2_w 162, 3) := by decide +kernel
theorem dX7_rise_6 : decode cX7_rise 6 = .ok (.invokestatic 109, 3) := by decide +kernel
theorem dX7_rise_9 : decode cX7_rise 9 = .ok (.ifCond .ne 6, 3) := by decide +kernel
theorem dX7_rise_12 : decode cX7_rise 12 = .ok (.ldc 140, 2) := by decide +kernel
theorem dX7_rise_14 : decode cX7_rise 14 = .ok (.ireturn, 1) := by decide +kernel
theorem dX7_rise_15 : decode cX7_rise 15 = .ok (.aload_n 0, 1) := by decide +kernel
theorem dX7_rise_16 : decode cX7_rise 16 = .ok (.getfield 7, 3) := by decide +kernel
theorem dX7_rise_19 : decode cX7_rise 19 = .ok (.iload_n 1, 1) := by decide +kernel
theorem dX7_rise_20 : decode cX7_rise 20 = .ok (.baload, 1) := by decide +kernel
theorem dX7_rise_21 : decode cX7_rise 21 = .ok (.ifCond .ne 6, 3) := by decide +kernel
theorem dX7_rise_24 : decode cX7_rise 24 = .ok (.ldc 141, 2) := by decide +kernel
theorem dX7_rise_26 : decode cX7_rise 26 = .ok (.ireturn, 1) := by decide +kernel
theorem dX7_rise_27 : decode cX7_rise 27 = .ok (.aload_n 0, 1) := by decide +kernel
theorem dX7_rise_28 : decode cX7_rise 28 = .ok (.getfield 7, 3) := by decide +kernel
theorem dX7_rise_31 : decode cX7_rise 31 = .ok (.iload_n 1, 1) := by decide +kernel
theorem dX7_rise_32 : decode cX7_rise 32 = .ok (.iconst 0, 1) := by decide +kernel
theorem dX7_rise_33 : decode cX7_rise 33 = .ok (.bastore, 1) := by decide +kernel
theorem dX7_rise_34 : decode cX7_rise 34 = .ok (.iload_n 1, 1) := by decide +kernel
theorem dX7_rise_35 : decode cX7_rise 35 = .ok (.bipush 6, 2) := by decide +kernel
theorem dX7_rise_37 : decode cX7_rise 37 = .ok (.if_icmp .ge 71, 3) := by decide +kernel
theorem dX7_rise_40 : decode cX7_rise 40 = .ok (.aload_n 0, 1) := by decide +kernel
theorem dX7_rise_41 : decode cX7_rise 41 = .ok (.getfield 13, 3) := by decide +kernel
theorem dX7_rise_44 : decode cX7_rise 44 = .ok (.iload_n 1, 1) := by decide +kernel
theorem dX7_rise_45 : decode cX7_rise 45 = .ok (.dup2, 1) := by decide +kernel
theorem dX7_rise_46 : decode cX7_rise 46 = .ok (.iaload, 1) := by decide +kernel
theorem dX7_rise_47 : decode cX7_rise 47 = .ok (.iconst 1, 1) := by decide +kernel
theorem dX7_rise_48 : decode cX7_rise 48 = .ok (.iadd, 1) := by decide +kernel
theorem dX7_rise_49 : decode cX7_rise 49 = .ok (.iastore, 1) := by decide +kernel
theorem dX7_rise_50 : decode cX7_rise 50 = .ok (.aload_n 0, 1) := by decide +kernel
theorem dX7_rise_51 : decode cX7_rise 51 = .ok (.getfield 17, 3) := by decide +kernel
theorem dX7_rise_54 : decode cX7_rise 54 = .ok (.iload_n 1, 1) := by decide +kernel
theorem dX7_rise_55 : decode cX7_rise 55 = .ok (.iconst 1, 1) := by decide +kernel
theorem dX7_rise_56 : decode cX7_rise 56 = .ok (.iastore, 1) := by decide +kernel
theorem dX7_rise_57 : decode cX7_rise 57 = .ok (.iconst 0, 1) := by decide +kernel
theorem dX7_rise_58 : decode cX7_rise 58 = .ok (.istore_n 2, 1) := by decide +kernel
theorem dX7_rise_59 : decode cX7_rise 59 = .ok (.iload_n 2, 1) := by decide +kernel
theorem dX7_rise_60 : decode cX7_rise 60 = .ok (.aload_n 0, 1) := by decide +kernel
theorem dX7_rise_61 : decode cX7_rise 61 = .ok (.getfield 106, 3) := by decide +kernel
theorem dX7_rise_64 : decode cX7_rise 64 = .ok (.if_icmp .ge 44, 3) := by decide +kernel
theorem dX7_rise_67 : decode cX7_rise 67 = .ok (.aload_n 0, 1) := by decide +kernel
theorem dX7_rise_68 : decode cX7_rise 68 = .ok (.getfield 51, 3) := by decide +kernel
theorem dX7_rise_71 : decode cX7_rise 71 = .ok (.iload_n 2, 1) := by decide +kernel
theorem dX7_rise_72 : decode cX7_rise 72 = .ok (.aload_n 0, 1) := by decide +kernel
theorem dX7_rise_73 : decode cX7_rise 73 = .ok (.getfield 24, 3) := by decide +kernel
theorem dX7_rise_76 : decode cX7_rise 76 = .ok (.iload_n 2, 1) := by decide +kernel
theorem dX7_rise_77 : decode cX7_rise 77 = .ok (.iaload, 1) := by decide +kernel
theorem dX7_rise_78 : decode cX7_rise 78 = .ok (.iload_n 1, 1) := by decide +kernel
theorem dX7_rise_79 : decode cX7_rise 79 = .ok (.if_icmp .ne 16, 3) := by decide +kernel
theorem dX7_rise_82 : decode cX7_rise 82 = .ok (.aload_n 0, 1) := by decide +kernel
theorem dX7_rise_83 : decode cX7_rise 83 = .ok (.getfield 51, 3) := by decide +kernel
theorem dX7_rise_86 : decode cX7_rise 86 = .ok (.iload_n 2, 1) := by decide +kernel
theorem dX7_rise_87 : decode cX7_rise 87 = .ok (.iaload, 1) := by decide +kernel
theorem dX7_rise_88 : decode cX7_rise 88 = .ok (.ifCond .ne 7, 3) := by decide +kernel
theorem dX7_rise_91 : decode cX7_rise 91 = .ok (.iconst 2, 1) := by decide +kernel
theorem dX7_rise_92 : decode cX7_rise 92 = .ok (.goto 9, 3) := by decide +kernel
theorem dX7_rise_95 : decode cX7_rise 95 = .ok (.aload_n 0, 1) := by decide +kernel
theorem dX7_rise_96 : decode cX7_rise 96 = .ok (.getfield 51, 3) := by decide +kernel
theorem dX7_rise_99 : decode cX7_rise 99 = .ok (.iload_n 2, 1) := by decide +kernel
theorem dX7_rise_100 : decode cX7_rise 100 = .ok (.iaload, 1) := by decide +kernel
theorem dX7_rise_101 : decode cX7_rise 101 = .ok (.iastore, 1) := by decide +kernel
theorem dX7_rise_102 : decode cX7_rise 102 = .ok (.iinc 2 1, 3) := by decide +kernel
theorem dX7_rise_105 : decode cX7_rise 105 = .ok (.goto (-46), 3) := by decide +kernel
theorem dX7_rise_108 : decode cX7_rise 108 = .ok (.aload_n 0, 1) := by decide +kernel
theorem dX7_rise_109 : decode cX7_rise 109 = .ok (.getfield 13, 3) := by decide +kernel
theorem dX7_rise_112 : decode cX7_rise 112 = .ok (.iload_n 1, 1) := by decide +kernel
theorem dX7_rise_113 : decode cX7_rise 113 = .ok (.iaload, 1) := by decide +kernel
theorem dX7_rise_114 : decode cX7_rise 114 = .ok (.ireturn, 1) := by decide +kernel
theorem dX7_isServer_0 : decode cX7_isServer 0 = .ok (.iload_n 0, 1) := by decide +kernel
theorem dX7_isServer_1 : decode cX7_isServer 1 = .ok (.i2l, 1) := by decide +kernel
theorem dX7_isServer_2 : decode cX7_isServer 2 = .ok (.lconst 0, 1) := by decide +kernel
theorem dX7_isServer_3 : decode cX7_isServer 3 = .ok (.ldc2_w 132, 3) := by decide +kernel
theorem dX7_isServer_6 : decode cX7_isServer 6 = .ok (.invokestatic 109, 3) := by decide +kernel
theorem dX7_isServer_9 : decode cX7_isServer 9 = .ok (.ireturn, 1) := by decide +kernel
theorem dX7_account_0 : decode cX7_account 0 = .ok (.iload_n 1, 1) := by decide +kernel
theorem dX7_account_1 : decode cX7_account 1 = .ok (.invokestatic 237, 3) := by decide +kernel
theorem dX7_account_4 : decode cX7_account 4 = .ok (.ifCond .eq 29, 3) := by decide +kernel
theorem dX7_account_7 : decode cX7_account 7 = .ok (.iload_n 2, 1) := by decide +kernel
theorem dX7_account_8 : decode cX7_account 8 = .ok (.i2l, 1) := by decide +kernel
theorem dX7_account_9 : decode cX7_account 9 = .ok (.lconst 0, 1) := by decide +kernel
theorem dX7_account_10 : decode cX7_account 10 = .ok (.ldc2_w 130, 3) := by decide +kernel
theorem dX7_account_13 : decode cX7_account 13 = .ok (.invokestatic 109, 3) := by decide +kernel
theorem dX7_account_16 : decode cX7_account 16 = .ok (.ifCond .eq 17, 3) := by decide +kernel
theorem dX7_account_19 : decode cX7_account 19 = .ok (.aload_n 0, 1) := by decide +kernel
theorem dX7_account_20 : decode cX7_account 20 = .ok (.getfield 20, 3) := by decide +kernel
theorem dX7_account_23 : decode cX7_account 23 = .ok (.bipush 6, 2) := by decide +kernel
theorem dX7_account_25 : decode cX7_account 25 = .ok (.iload_n 1, 1) := by decide +kernel
theorem dX7_account_26 : decode cX7_account 26 = .ok (.imul, 1) := by decide +kernel
theorem dX7_account_27 : decode cX7_account 27 = .ok (.iload_n 2, 1) := by decide +kernel
theorem dX7_account_28 : decode cX7_account 28 = .ok (.iadd, 1) := by decide +kernel
theorem dX7_account_29 : decode cX7_account 29 = .ok (.laload, 1) := by decide +kernel
theorem dX7_account_30 : decode cX7_account 30 = .ok (.goto 6, 3) := by decide +kernel
theorem dX7_account_33 : decode cX7_account 33 = .ok (.ldc2_w 158, 3) := by decide +kernel
theorem dX7_account_36 : decode cX7_account 36 = .ok (.lreturn, 1) := by decide +kernel
theorem dX7_recordsOf_0 : decode cX7_recordsOf 0 = .ok (.iconst 0, 1) := by decide +kernel
theorem dX7_recordsOf_1 : decode cX7_recordsOf 1 = .ok (.istore_n 2, 1) := by decide +kernel
theorem dX7_recordsOf_2 : decode cX7_recordsOf 2 = .ok (.iconst 0, 1) := by decide +kernel
theorem dX7_recordsOf_3 : decode cX7_recordsOf 3 = .ok (.istore_n 3, 1) := by decide +kernel
theorem dX7_recordsOf_4 : decode cX7_recordsOf 4 = .ok (.iload_n 3, 1) := by decide +kernel
theorem dX7_recordsOf_5 : decode cX7_recordsOf 5 = .ok (.aload_n 0, 1) := by decide +kernel
theorem dX7_recordsOf_6 : decode cX7_recordsOf 6 = .ok (.getfield 166, 3) := by decide +kernel
theorem dX7_recordsOf_9 : decode cX7_recordsOf 9 = .ok (.if_icmp .ge 27, 3) := by decide +kernel
theorem dX7_recordsOf_12 : decode cX7_recordsOf 12 = .ok (.iload_n 2, 1) := by decide +kernel
theorem dX7_recordsOf_13 : decode cX7_recordsOf 13 = .ok (.aload_n 0, 1) := by decide +kernel
theorem dX7_recordsOf_14 : decode cX7_recordsOf 14 = .ok (.getfield 87, 3) := by decide +kernel
theorem dX7_recordsOf_17 : decode cX7_recordsOf 17 = .ok (.iload_n 3, 1) := by decide +kernel
theorem dX7_recordsOf_18 : decode cX7_recordsOf 18 = .ok (.iaload, 1) := by decide +kernel
theorem dX7_recordsOf_19 : decode cX7_recordsOf 19 = .ok (.iload_n 1, 1) := by decide +kernel
theorem dX7_recordsOf_20 : decode cX7_recordsOf 20 = .ok (.if_icmp .ne 7, 3) := by decide +kernel
theorem dX7_recordsOf_23 : decode cX7_recordsOf 23 = .ok (.iconst 1, 1) := by decide +kernel
theorem dX7_recordsOf_24 : decode cX7_recordsOf 24 = .ok (.goto 4, 3) := by decide +kernel
theorem dX7_recordsOf_27 : decode cX7_recordsOf 27 = .ok (.iconst 0, 1) := by decide +kernel
theorem dX7_recordsOf_28 : decode cX7_recordsOf 28 = .ok (.iadd, 1) := by decide +kernel
theorem dX7_recordsOf_29 : decode cX7_recordsOf 29 = .ok (.istore_n 2, 1) := by decide +kernel
theorem dX7_recordsOf_30 : decode cX7_recordsOf 30 = .ok (.iinc 3 1, 3) := by decide +kernel
theorem dX7_recordsOf_33 : decode cX7_recordsOf 33 = .ok (.goto (-29), 3) := by decide +kernel
theorem dX7_recordsOf_36 : decode cX7_recordsOf 36 = .ok (.iload_n 2, 1) := by decide +kernel
theorem dX7_recordsOf_37 : decode cX7_recordsOf 37 = .ok (.ireturn, 1) := by decide +kernel
theorem dX7_kept_0 : decode cX7_kept 0 = .ok (.iload_n 1, 1) := by decide +kernel
theorem dX7_kept_1 : decode cX7_kept 1 = .ok (.invokestatic 237, 3) := by decide +kernel
theorem dX7_kept_4 : decode cX7_kept 4 = .ok (.ifCond .eq 27, 3) := by decide +kernel
theorem dX7_kept_7 : decode cX7_kept 7 = .ok (.iload_n 2, 1) := by decide +kernel
theorem dX7_kept_8 : decode cX7_kept 8 = .ok (.i2l, 1) := by decide +kernel
theorem dX7_kept_9 : decode cX7_kept 9 = .ok (.lconst 0, 1) := by decide +kernel
theorem dX7_kept_10 : decode cX7_kept 10 = .ok (.ldc2_w 162, 3) := by decide +kernel
theorem dX7_kept_13 : decode cX7_kept 13 = .ok (.invokestatic 109, 3) := by decide +kernel
theorem dX7_kept_16 : decode cX7_kept 16 = .ok (.ifCond .eq 15, 3) := by decide +kernel
theorem dX7_kept_19 : decode cX7_kept 19 = .ok (.iload_n 3, 1) := by decide +kernel
theorem dX7_kept_20 : decode cX7_kept 20 = .ok (.i2l, 1) := by decide +kernel
theorem dX7_kept_21 : decode cX7_kept 21 = .ok (.lconst 0, 1) := by decide +kernel
theorem dX7_kept_22 : decode cX7_kept 22 = .ok (.ldc2_w 164, 3) := by decide +kernel
theorem dX7_kept_25 : decode cX7_kept 25 = .ok (.invokestatic 109, 3) := by decide +kernel
theorem dX7_kept_28 : decode cX7_kept 28 = .ok (.ifCond .ne 6, 3) := by decide +kernel
theorem dX7_kept_31 : decode cX7_kept 31 = .ok (.ldc 140, 2) := by decide +kernel
theorem dX7_kept_33 : decode cX7_kept 33 = .ok (.ireturn, 1) := by decide +kernel
theorem dX7_kept_34 : decode cX7_kept 34 = .ok (.bipush 10, 2) := by decide +kernel
theorem dX7_kept_36 : decode cX7_kept 36 = .ok (.iload_n 1, 1) := by decide +kernel
theorem dX7_kept_37 : decode cX7_kept 37 = .ok (.imul, 1) := by decide +kernel
theorem dX7_kept_38 : decode cX7_kept 38 = .ok (.iload_n 2, 1) := by decide +kernel
theorem dX7_kept_39 : decode cX7_kept 39 = .ok (.iadd, 1) := by decide +kernel
theorem dX7_kept_40 : decode cX7_kept 40 = .ok (.istore 4, 2) := by decide +kernel
theorem dX7_kept_42 : decode cX7_kept 42 = .ok (.iload_n 3, 1) := by decide +kernel
theorem dX7_kept_43 : decode cX7_kept 43 = .ok (.ifCond .ne 13, 3) := by decide +kernel
theorem dX7_kept_46 : decode cX7_kept 46 = .ok (.aload_n 0, 1) := by decide +kernel
theorem dX7_kept_47 : decode cX7_kept 47 = .ok (.getfield 81, 3) := by decide +kernel
theorem dX7_kept_50 : decode cX7_kept 50 = .ok (.iload 4, 2) := by decide +kernel
theorem dX7_kept_52 : decode cX7_kept 52 = .ok (.iaload, 1) := by decide +kernel
theorem dX7_kept_53 : decode cX7_kept 53 = .ok (.goto 24, 3) := by decide +kernel
theorem dX7_kept_56 : decode cX7_kept 56 = .ok (.iload_n 3, 1) := by decide +kernel
theorem dX7_kept_57 : decode cX7_kept 57 = .ok (.iconst 1, 1) := by decide +kernel
theorem dX7_kept_58 : decode cX7_kept 58 = .ok (.if_icmp .ne 13, 3) := by decide +kernel
theorem dX7_kept_61 : decode cX7_kept 61 = .ok (.aload_n 0, 1) := by decide +kernel
theorem dX7_kept_62 : decode cX7_kept 62 = .ok (.getfield 84, 3) := by decide +kernel
theorem dX7_kept_65 : decode cX7_kept 65 = .ok (.iload 4, 2) := by decide +kernel
theorem dX7_kept_67 : decode cX7_kept 67 = .ok (.iaload, 1) := by decide +kernel
theorem dX7_kept_68 : decode cX7_kept 68 = .ok (.goto 9, 3) := by decide +kernel
theorem dX7_kept_71 : decode cX7_kept 71 = .ok (.aload_n 0, 1) := by decide +kernel
theorem dX7_kept_72 : decode cX7_kept 72 = .ok (.iload 4, 2) := by decide +kernel
theorem dX7_kept_74 : decode cX7_kept 74 = .ok (.invokevirtual 240, 3) := by decide +kernel
theorem dX7_kept_77 : decode cX7_kept 77 = .ok (.ireturn, 1) := by decide +kernel
theorem dX7_record_0 : decode cX7_record 0 = .ok (.iload_n 1, 1) := by decide +kernel
theorem dX7_record_1 : decode cX7_record 1 = .ok (.invokestatic 237, 3) := by decide +kernel
theorem dX7_record_4 : decode cX7_record 4 = .ok (.ifCond .eq 15, 3) := by decide +kernel
theorem dX7_record_7 : decode cX7_record 7 = .ok (.iload_n 2, 1) := by decide +kernel
theorem dX7_record_8 : decode cX7_record 8 = .ok (.i2l, 1) := by decide +kernel
theorem dX7_record_9 : decode cX7_record 9 = .ok (.lconst 0, 1) := by decide +kernel
theorem dX7_record_10 : decode cX7_record 10 = .ok (.ldc2_w 162, 3) := by decide +kernel
theorem dX7_record_13 : decode cX7_record 13 = .ok (.invokestatic 109, 3) := by decide +kernel
theorem dX7_record_16 : decode cX7_record 16 = .ok (.ifCond .ne 6, 3) := by decide +kernel
theorem dX7_record_19 : decode cX7_record 19 = .ok (.ldc 140, 2) := by decide +kernel
theorem dX7_record_21 : decode cX7_record 21 = .ok (.ireturn, 1) := by decide +kernel
theorem dX7_record_22 : decode cX7_record 22 = .ok (.aload_n 0, 1) := by decide +kernel
theorem dX7_record_23 : decode cX7_record 23 = .ok (.bipush 10, 2) := by decide +kernel
theorem dX7_record_25 : decode cX7_record 25 = .ok (.iload_n 1, 1) := by decide +kernel
theorem dX7_record_26 : decode cX7_record 26 = .ok (.imul, 1) := by decide +kernel
theorem dX7_record_27 : decode cX7_record 27 = .ok (.iload_n 2, 1) := by decide +kernel
theorem dX7_record_28 : decode cX7_record 28 = .ok (.iadd, 1) := by decide +kernel
theorem dX7_record_29 : decode cX7_record 29 = .ok (.iload_n 3, 1) := by decide +kernel
theorem dX7_record_30 : decode cX7_record 30 = .ok (.invokevirtual 169, 3) := by decide +kernel
theorem dX7_record_33 : decode cX7_record 33 = .ok (.istore 4, 2) := by decide +kernel
theorem dX7_record_35 : decode cX7_record 35 = .ok (.iload 4, 2) := by decide +kernel
theorem dX7_record_37 : decode cX7_record 37 = .ok (.ifCond .ge 7, 3) := by decide +kernel
theorem dX7_record_40 : decode cX7_record 40 = .ok (.iconst 0, 1) := by decide +kernel
theorem dX7_record_41 : decode cX7_record 41 = .ok (.goto 10, 3) := by decide +kernel
theorem dX7_record_44 : decode cX7_record 44 = .ok (.aload_n 0, 1) := by decide +kernel
theorem dX7_record_45 : decode cX7_record 45 = .ok (.getfield 93, 3) := by decide +kernel
theorem dX7_record_48 : decode cX7_record 48 = .ok (.iload 4, 2) := by decide +kernel
theorem dX7_record_50 : decode cX7_record 50 = .ok (.iaload, 1) := by decide +kernel
theorem dX7_record_51 : decode cX7_record 51 = .ok (.ireturn, 1) := by decide +kernel
theorem dX7_leave_0 : decode cX7_leave 0 = .ok (.iload_n 1, 1) := by decide +kernel
theorem dX7_leave_1 : decode cX7_leave 1 = .ok (.invokestatic 237, 3) := by decide +kernel
theorem dX7_leave_4 : decode cX7_leave 4 = .ok (.ifCond .eq 15, 3) := by decide +kernel
theorem dX7_leave_7 : decode cX7_leave 7 = .ok (.iload_n 2, 1) := by decide +kernel
theorem dX7_leave_8 : decode cX7_leave 8 = .ok (.i2l, 1) := by decide +kernel
theorem dX7_leave_9 : decode cX7_leave 9 = .ok (.lconst 0, 1) := by decide +kernel
theorem dX7_leave_10 : decode cX7_leave 10 = .ok (.ldc2_w 130, 3) := by decide +kernel
theorem dX7_leave_13 : decode cX7_leave 13 = .ok (.invokestatic 109, 3) := by decide +kernel
theorem dX7_leave_16 : decode cX7_leave 16 = .ok (.ifCond .ne 6, 3) := by decide +kernel
theorem dX7_leave_19 : decode cX7_leave 19 = .ok (.ldc 140, 2) := by decide +kernel
theorem dX7_leave_21 : decode cX7_leave 21 = .ok (.ireturn, 1) := by decide +kernel
theorem dX7_leave_22 : decode cX7_leave 22 = .ok (.bipush 10, 2) := by decide +kernel
theorem dX7_leave_24 : decode cX7_leave 24 = .ok (.iload_n 1, 1) := by decide +kernel
theorem dX7_leave_25 : decode cX7_leave 25 = .ok (.imul, 1) := by decide +kernel
theorem dX7_leave_26 : decode cX7_leave 26 = .ok (.iload_n 2, 1) := by decide +kernel
theorem dX7_leave_27 : decode cX7_leave 27 = .ok (.iadd, 1) := by decide +kernel
theorem dX7_leave_28 : decode cX7_leave 28 = .ok (.istore_n 3, 1) := by decide +kernel
theorem dX7_leave_29 : decode cX7_leave 29 = .ok (.iconst 0, 1) := by decide +kernel
theorem dX7_leave_30 : decode cX7_leave 30 = .ok (.istore 4, 2) := by decide +kernel
theorem dX7_leave_32 : decode cX7_leave 32 = .ok (.iconst 0, 1) := by decide +kernel
theorem dX7_leave_33 : decode cX7_leave 33 = .ok (.istore 5, 2) := by decide +kernel
theorem dX7_leave_35 : decode cX7_leave 35 = .ok (.iload 5, 2) := by decide +kernel
theorem dX7_leave_37 : decode cX7_leave 37 = .ok (.aload_n 0, 1) := by decide +kernel
theorem dX7_leave_38 : decode cX7_leave 38 = .ok (.getfield 166, 3) := by decide +kernel
theorem dX7_leave_41 : decode cX7_leave 41 = .ok (.if_icmp .ge 43, 3) := by decide +kernel
theorem dX7_leave_44 : decode cX7_leave 44 = .ok (.iload 4, 2) := by decide +kernel
theorem dX7_leave_46 : decode cX7_leave 46 = .ok (.ifCond .ne 25, 3) := by decide +kernel
theorem dX7_leave_49 : decode cX7_leave 49 = .ok (.aload_n 0, 1) := by decide +kernel
theorem dX7_leave_50 : decode cX7_leave 50 = .ok (.getfield 87, 3) := by decide +kernel
theorem dX7_leave_53 : decode cX7_leave 53 = .ok (.iload 5, 2) := by decide +kernel
theorem dX7_leave_55 : decode cX7_leave 55 = .ok (.iaload, 1) := by decide +kernel
theorem dX7_leave_56 : decode cX7_leave 56 = .ok (.iload_n 3, 1) := by decide +kernel
theorem dX7_leave_57 : decode cX7_leave 57 = .ok (.if_icmp .ne 18, 3) := by decide +kernel
theorem dX7_leave_60 : decode cX7_leave 60 = .ok (.aload_n 0, 1) := by decide +kernel
theorem dX7_leave_61 : decode cX7_leave 61 = .ok (.getfield 93, 3) := by decide +kernel
theorem dX7_leave_64 : decode cX7_leave 64 = .ok (.iload 5, 2) := by decide +kernel
theorem dX7_leave_66 : decode cX7_leave 66 = .ok (.iaload, 1) := by decide +kernel
theorem dX7_leave_67 : decode cX7_leave 67 = .ok (.iconst 2, 1) := by decide +kernel
theorem dX7_leave_68 : decode cX7_leave 68 = .ok (.if_icmp .ne 7, 3) := by decide +kernel
theorem dX7_leave_71 : decode cX7_leave 71 = .ok (.iconst 1, 1) := by decide +kernel
theorem dX7_leave_72 : decode cX7_leave 72 = .ok (.goto 4, 3) := by decide +kernel
theorem dX7_leave_75 : decode cX7_leave 75 = .ok (.iconst 0, 1) := by decide +kernel
theorem dX7_leave_76 : decode cX7_leave 76 = .ok (.istore 4, 2) := by decide +kernel
theorem dX7_leave_78 : decode cX7_leave 78 = .ok (.iinc 5 1, 3) := by decide +kernel
theorem dX7_leave_81 : decode cX7_leave 81 = .ok (.goto (-46), 3) := by decide +kernel
theorem dX7_leave_84 : decode cX7_leave 84 = .ok (.aload_n 0, 1) := by decide +kernel
theorem dX7_leave_85 : decode cX7_leave 85 = .ok (.getfield 7, 3) := by decide +kernel
theorem dX7_leave_88 : decode cX7_leave 88 = .ok (.bipush 6, 2) := by decide +kernel
theorem dX7_leave_90 : decode cX7_leave 90 = .ok (.iload_n 1, 1) := by decide +kernel
theorem dX7_leave_91 : decode cX7_leave 91 = .ok (.iadd, 1) := by decide +kernel
theorem dX7_leave_92 : decode cX7_leave 92 = .ok (.baload, 1) := by decide +kernel
theorem dX7_leave_93 : decode cX7_leave 93 = .ok (.ifCond .ne 8, 3) := by decide +kernel
theorem dX7_leave_96 : decode cX7_leave 96 = .ok (.iload 4, 2) := by decide +kernel
theorem dX7_leave_98 : decode cX7_leave 98 = .ok (.ifCond .eq 6, 3) := by decide +kernel
theorem dX7_leave_101 : decode cX7_leave 101 = .ok (.ldc 141, 2) := by decide +kernel
theorem dX7_leave_103 : decode cX7_leave 103 = .ok (.ireturn, 1) := by decide +kernel
theorem dX7_leave_104 : decode cX7_leave 104 = .ok (.aload_n 0, 1) := by decide +kernel
theorem dX7_leave_105 : decode cX7_leave 105 = .ok (.getfield 81, 3) := by decide +kernel
theorem dX7_leave_108 : decode cX7_leave 108 = .ok (.iload_n 3, 1) := by decide +kernel
theorem dX7_leave_109 : decode cX7_leave 109 = .ok (.dup2, 1) := by decide +kernel
theorem dX7_leave_110 : decode cX7_leave 110 = .ok (.iaload, 1) := by decide +kernel
theorem dX7_leave_111 : decode cX7_leave 111 = .ok (.iconst 1, 1) := by decide +kernel
theorem dX7_leave_112 : decode cX7_leave 112 = .ok (.iadd, 1) := by decide +kernel
theorem dX7_leave_113 : decode cX7_leave 113 = .ok (.iastore, 1) := by decide +kernel
theorem dX7_leave_114 : decode cX7_leave 114 = .ok (.aload_n 0, 1) := by decide +kernel
theorem dX7_leave_115 : decode cX7_leave 115 = .ok (.getfield 84, 3) := by decide +kernel
theorem dX7_leave_118 : decode cX7_leave 118 = .ok (.iload_n 3, 1) := by decide +kernel
theorem dX7_leave_119 : decode cX7_leave 119 = .ok (.iconst 1, 1) := by decide +kernel
theorem dX7_leave_120 : decode cX7_leave 120 = .ok (.iastore, 1) := by decide +kernel
theorem dX7_leave_121 : decode cX7_leave 121 = .ok (.aload_n 0, 1) := by decide +kernel
theorem dX7_leave_122 : decode cX7_leave 122 = .ok (.iload_n 3, 1) := by decide +kernel
theorem dX7_leave_123 : decode cX7_leave 123 = .ok (.ldc 181, 2) := by decide +kernel
theorem dX7_leave_125 : decode cX7_leave 125 = .ok (.invokevirtual 182, 3) := by decide +kernel
theorem dX7_leave_128 : decode cX7_leave 128 = .ok (.ireturn, 1) := by decide +kernel
theorem dX7_times_0 : decode cX7_times 0 = .ok (.aload_n 0, 1) := by decide +kernel
theorem dX7_times_1 : decode cX7_times 1 = .ok (.iload_n 1, 1) := by decide +kernel
theorem dX7_times_2 : decode cX7_times 2 = .ok (.invokevirtual 155, 3) := by decide +kernel
theorem dX7_times_5 : decode cX7_times 5 = .ok (.ifCond .ne 8, 3) := by decide +kernel
theorem dX7_times_8 : decode cX7_times 8 = .ok (.ldc 140, 2) := by decide +kernel
theorem dX7_times_10 : decode cX7_times 10 = .ok (.goto 17, 3) := by decide +kernel
theorem dX7_times_13 : decode cX7_times 13 = .ok (.aload_n 0, 1) := by decide +kernel
theorem dX7_times_14 : decode cX7_times 14 = .ok (.getfield 63, 3) := by decide +kernel
theorem dX7_times_17 : decode cX7_times 17 = .ok (.iload_n 1, 1) := by decide +kernel
theorem dX7_times_18 : decode cX7_times 18 = .ok (.baload, 1) := by decide +kernel
theorem dX7_times_19 : decode cX7_times 19 = .ok (.ifCond .eq 7, 3) := by decide +kernel
theorem dX7_times_22 : decode cX7_times 22 = .ok (.iconst 1, 1) := by decide +kernel
theorem dX7_times_23 : decode cX7_times 23 = .ok (.goto 4, 3) := by decide +kernel
theorem dX7_times_26 : decode cX7_times 26 = .ok (.iconst 0, 1) := by decide +kernel
theorem dX7_times_27 : decode cX7_times 27 = .ok (.ireturn, 1) := by decide +kernel
theorem dX7_audit_0 : decode cX7_audit 0 = .ok (.lconst 0, 1) := by decide +kernel
theorem dX7_audit_1 : decode cX7_audit 1 = .ok (.lstore_n 2, 1) := by decide +kernel
theorem dX7_audit_2 : decode cX7_audit 2 = .ok (.iload_n 1, 1) := by decide +kernel
theorem dX7_audit_3 : decode cX7_audit 3 = .ok (.tableswitch 192 0 2 #[25, 53, 124], 25) := by decide +kernel
theorem dX7_audit_28 : decode cX7_audit 28 = .ok (.iconst 0, 1) := by decide +kernel
theorem dX7_audit_29 : decode cX7_audit 29 = .ok (.istore 4, 2) := by decide +kernel
theorem dX7_audit_31 : decode cX7_audit 31 = .ok (.iload 4, 2) := by decide +kernel
theorem dX7_audit_33 : decode cX7_audit 33 = .ok (.bipush 24, 2) := by decide +kernel
theorem dX7_audit_35 : decode cX7_audit 35 = .ok (.if_icmp .ge 19, 3) := by decide +kernel
theorem dX7_audit_38 : decode cX7_audit 38 = .ok (.lload_n 2, 1) := by decide +kernel
theorem dX7_audit_39 : decode cX7_audit 39 = .ok (.aload_n 0, 1) := by decide +kernel
theorem dX7_audit_40 : decode cX7_audit 40 = .ok (.getfield 20, 3) := by decide +kernel
theorem dX7_audit_43 : decode cX7_audit 43 = .ok (.iload 4, 2) := by decide +kernel
theorem dX7_audit_45 : decode cX7_audit 45 = .ok (.laload, 1) := by decide +kernel
theorem dX7_audit_46 : decode cX7_audit 46 = .ok (.ladd, 1) := by decide +kernel
theorem dX7_audit_47 : decode cX7_audit 47 = .ok (.lstore_n 2, 1) := by decide +kernel
theorem dX7_audit_48 : decode cX7_audit 48 = .ok (.iinc 4 1, 3) := by decide +kernel
theorem dX7_audit_51 : decode cX7_audit 51 = .ok (.goto (-20), 3) := by decide +kernel
theorem dX7_audit_54 : decode cX7_audit 54 = .ok (.lload_n 2, 1) := by decide +kernel
theorem dX7_audit_55 : decode cX7_audit 55 = .ok (.lreturn, 1) := by decide +kernel
theorem dX7_audit_56 : decode cX7_audit 56 = .ok (.iconst 0, 1) := by decide +kernel
theorem dX7_audit_57 : decode cX7_audit 57 = .ok (.istore 4, 2) := by decide +kernel
theorem dX7_audit_59 : decode cX7_audit 59 = .ok (.iload 4, 2) := by decide +kernel
theorem dX7_audit_61 : decode cX7_audit 61 = .ok (.aload_n 0, 1) := by decide +kernel
theorem dX7_audit_62 : decode cX7_audit 62 = .ok (.getfield 106, 3) := by decide +kernel
theorem dX7_audit_65 : decode cX7_audit 65 = .ok (.if_icmp .ge 60, 3) := by decide +kernel
theorem dX7_audit_68 : decode cX7_audit 68 = .ok (.lload_n 2, 1) := by decide +kernel
theorem dX7_audit_69 : decode cX7_audit 69 = .ok (.aload_n 0, 1) := by decide +kernel
theorem dX7_audit_70 : decode cX7_audit 70 = .ok (.getfield 36, 3) := by decide +kernel
theorem dX7_audit_73 : decode cX7_audit 73 = .ok (.iload 4, 2) := by decide +kernel
theorem dX7_audit_75 : decode cX7_audit 75 = .ok (.iaload, 1) := by decide +kernel
theorem dX7_audit_76 : decode cX7_audit 76 = .ok (.iconst 3, 1) := by decide +kernel
theorem dX7_audit_77 : decode cX7_audit 77 = .ok (.if_icmp .ne 39, 3) := by decide +kernel
theorem dX7_audit_80 : decode cX7_audit 80 = .ok (.aload_n 0, 1) := by decide +kernel
theorem dX7_audit_81 : decode cX7_audit 81 = .ok (.getfield 63, 3) := by decide +kernel
theorem dX7_audit_84 : decode cX7_audit 84 = .ok (.iload 4, 2) := by decide +kernel
theorem dX7_audit_86 : decode cX7_audit 86 = .ok (.baload, 1) := by decide +kernel
theorem dX7_audit_87 : decode cX7_audit 87 = .ok (.ifCond .eq 29, 3) := by decide +kernel
theorem dX7_audit_90 : decode cX7_audit 90 = .ok (.aload_n 0, 1) := by decide +kernel
theorem dX7_audit_91 : decode cX7_audit 91 = .ok (.getfield 63, 3) := by decide +kernel
theorem dX7_audit_94 : decode cX7_audit 94 = .ok (.aload_n 0, 1) := by decide +kernel
theorem dX7_audit_95 : decode cX7_audit 95 = .ok (.getfield 60, 3) := by decide +kernel
theorem dX7_audit_98 : decode cX7_audit 98 = .ok (.iload 4, 2) := by decide +kernel
theorem dX7_audit_100 : decode cX7_audit 100 = .ok (.iaload, 1) := by decide +kernel
theorem dX7_audit_101 : decode cX7_audit 101 = .ok (.baload, 1) := by decide +kernel
theorem dX7_audit_102 : decode cX7_audit 102 = .ok (.ifCond .ne 14, 3) := by decide +kernel
theorem dX7_audit_105 : decode cX7_audit 105 = .ok (.aload_n 0, 1) := by decide +kernel
theorem dX7_audit_106 : decode cX7_audit 106 = .ok (.getfield 48, 3) := by decide +kernel
theorem dX7_audit_109 : decode cX7_audit 109 = .ok (.iload 4, 2) := by decide +kernel
theorem dX7_audit_111 : decode cX7_audit 111 = .ok (.iaload, 1) := by decide +kernel
theorem dX7_audit_112 : decode cX7_audit 112 = .ok (.i2l, 1) := by decide +kernel
theorem dX7_audit_113 : decode cX7_audit 113 = .ok (.goto 4, 3) := by decide +kernel
theorem dX7_audit_116 : decode cX7_audit 116 = .ok (.lconst 0, 1) := by decide +kernel
theorem dX7_audit_117 : decode cX7_audit 117 = .ok (.ladd, 1) := by decide +kernel
theorem dX7_audit_118 : decode cX7_audit 118 = .ok (.lstore_n 2, 1) := by decide +kernel
theorem dX7_audit_119 : decode cX7_audit 119 = .ok (.iinc 4 1, 3) := by decide +kernel
theorem dX7_audit_122 : decode cX7_audit 122 = .ok (.goto (-63), 3) := by decide +kernel
theorem dX7_audit_125 : decode cX7_audit 125 = .ok (.lload_n 2, 1) := by decide +kernel
theorem dX7_audit_126 : decode cX7_audit 126 = .ok (.lreturn, 1) := by decide +kernel
theorem dX7_audit_127 : decode cX7_audit 127 = .ok (.iconst 0, 1) := by decide +kernel
theorem dX7_audit_128 : decode cX7_audit 128 = .ok (.istore 4, 2) := by decide +kernel
theorem dX7_audit_130 : decode cX7_audit 130 = .ok (.iload 4, 2) := by decide +kernel
theorem dX7_audit_132 : decode cX7_audit 132 = .ok (.aload_n 0, 1) := by decide +kernel
theorem dX7_audit_133 : decode cX7_audit 133 = .ok (.getfield 106, 3) := by decide +kernel
theorem dX7_audit_136 : decode cX7_audit 136 = .ok (.if_icmp .ge 57, 3) := by decide +kernel
theorem dX7_audit_139 : decode cX7_audit 139 = .ok (.lload_n 2, 1) := by decide +kernel
theorem dX7_audit_140 : decode cX7_audit 140 = .ok (.aload_n 0, 1) := by decide +kernel
theorem dX7_audit_141 : decode cX7_audit 141 = .ok (.getfield 36, 3) := by decide +kernel
theorem dX7_audit_144 : decode cX7_audit 144 = .ok (.iload 4, 2) := by decide +kernel
theorem dX7_audit_146 : decode cX7_audit 146 = .ok (.iaload, 1) := by decide +kernel
theorem dX7_audit_147 : decode cX7_audit 147 = .ok (.iconst 1, 1) := by decide +kernel
theorem dX7_audit_148 : decode cX7_audit 148 = .ok (.if_icmp .ne 36, 3) := by decide +kernel
theorem dX7_audit_151 : decode cX7_audit 151 = .ok (.aload_n 0, 1) := by decide +kernel
theorem dX7_audit_152 : decode cX7_audit 152 = .ok (.getfield 24, 3) := by decide +kernel
theorem dX7_audit_155 : decode cX7_audit 155 = .ok (.iload 4, 2) := by decide +kernel
theorem dX7_audit_157 : decode cX7_audit 157 = .ok (.iaload, 1) := by decide +kernel
theorem dX7_audit_158 : decode cX7_audit 158 = .ok (.bipush 6, 2) := by decide +kernel
theorem dX7_audit_160 : decode cX7_audit 160 = .ok (.if_icmp .ge 24, 3) := by decide +kernel
theorem dX7_audit_163 : decode cX7_audit 163 = .ok (.aload_n 0, 1) := by decide +kernel
theorem dX7_audit_164 : decode cX7_audit 164 = .ok (.getfield 63, 3) := by decide +kernel
theorem dX7_audit_167 : decode cX7_audit 167 = .ok (.iload 4, 2) := by decide +kernel
theorem dX7_audit_169 : decode cX7_audit 169 = .ok (.baload, 1) := by decide +kernel
theorem dX7_audit_170 : decode cX7_audit 170 = .ok (.ifCond .eq 14, 3) := by decide +kernel
theorem dX7_audit_173 : decode cX7_audit 173 = .ok (.aload_n 0, 1) := by decide +kernel
theorem dX7_audit_174 : decode cX7_audit 174 = .ok (.getfield 48, 3) := by decide +kernel
theorem dX7_audit_177 : decode cX7_audit 177 = .ok (.iload 4, 2) := by decide +kernel
theorem dX7_audit_179 : decode cX7_audit 179 = .ok (.iaload, 1) := by decide +kernel
theorem dX7_audit_180 : decode cX7_audit 180 = .ok (.i2l, 1) := by decide +kernel
theorem dX7_audit_181 : decode cX7_audit 181 = .ok (.goto 4, 3) := by decide +kernel
theorem dX7_audit_184 : decode cX7_audit 184 = .ok (.lconst 0, 1) := by decide +kernel
theorem dX7_audit_185 : decode cX7_audit 185 = .ok (.ladd, 1) := by decide +kernel
theorem dX7_audit_186 : decode cX7_audit 186 = .ok (.lstore_n 2, 1) := by decide +kernel
theorem dX7_audit_187 : decode cX7_audit 187 = .ok (.iinc 4 1, 3) := by decide +kernel
theorem dX7_audit_190 : decode cX7_audit 190 = .ok (.goto (-60), 3) := by decide +kernel
theorem dX7_audit_193 : decode cX7_audit 193 = .ok (.lload_n 2, 1) := by decide +kernel
theorem dX7_audit_194 : decode cX7_audit 194 = .ok (.lreturn, 1) := by decide +kernel
theorem dX7_audit_195 : decode cX7_audit 195 = .ok (.ldc2_w 158, 3) := by decide +kernel
theorem dX7_audit_198 : decode cX7_audit 198 = .ok (.lreturn, 1) := by decide +kernel
theorem dX7_witnessOf_0 : decode cX7_witnessOf 0 = .ok (.ldc2_w 243, 3) := by decide +kernel
theorem dX7_witnessOf_3 : decode cX7_witnessOf 3 = .ok (.lstore_n 2, 1) := by decide +kernel
theorem dX7_witnessOf_4 : decode cX7_witnessOf 4 = .ok (.ldc2_w 245, 3) := by decide +kernel
theorem dX7_witnessOf_7 : decode cX7_witnessOf 7 = .ok (.lload_n 2, 1) := by decide +kernel
theorem dX7_witnessOf_8 : decode cX7_witnessOf 8 = .ok (.lmul, 1) := by decide +kernel
theorem dX7_witnessOf_9 : decode cX7_witnessOf 9 = .ok (.aload_n 0, 1) := by decide +kernel
theorem dX7_witnessOf_10 : decode cX7_witnessOf 10 = .ok (.getfield 24, 3) := by decide +kernel
theorem dX7_witnessOf_13 : decode cX7_witnessOf 13 = .ok (.iload_n 1, 1) := by decide +kernel
theorem dX7_witnessOf_14 : decode cX7_witnessOf 14 = .ok (.iaload, 1) := by decide +kernel
theorem dX7_witnessOf_15 : decode cX7_witnessOf 15 = .ok (.i2l, 1) := by decide +kernel
theorem dX7_witnessOf_16 : decode cX7_witnessOf 16 = .ok (.ladd, 1) := by decide +kernel
theorem dX7_witnessOf_17 : decode cX7_witnessOf 17 = .ok (.lstore_n 2, 1) := by decide +kernel
theorem dX7_witnessOf_18 : decode cX7_witnessOf 18 = .ok (.ldc2_w 245, 3) := by decide +kernel
theorem dX7_witnessOf_21 : decode cX7_witnessOf 21 = .ok (.lload_n 2, 1) := by decide +kernel
theorem dX7_witnessOf_22 : decode cX7_witnessOf 22 = .ok (.lmul, 1) := by decide +kernel
theorem dX7_witnessOf_23 : decode cX7_witnessOf 23 = .ok (.aload_n 0, 1) := by decide +kernel
theorem dX7_witnessOf_24 : decode cX7_witnessOf 24 = .ok (.getfield 27, 3) := by decide +kernel
theorem dX7_witnessOf_27 : decode cX7_witnessOf 27 = .ok (.iload_n 1, 1) := by decide +kernel
theorem dX7_witnessOf_28 : decode cX7_witnessOf 28 = .ok (.iaload, 1) := by decide +kernel
theorem dX7_witnessOf_29 : decode cX7_witnessOf 29 = .ok (.i2l, 1) := by decide +kernel
theorem dX7_witnessOf_30 : decode cX7_witnessOf 30 = .ok (.ladd, 1) := by decide +kernel
theorem dX7_witnessOf_31 : decode cX7_witnessOf 31 = .ok (.lstore_n 2, 1) := by decide +kernel
theorem dX7_witnessOf_32 : decode cX7_witnessOf 32 = .ok (.ldc2_w 245, 3) := by decide +kernel
theorem dX7_witnessOf_35 : decode cX7_witnessOf 35 = .ok (.lload_n 2, 1) := by decide +kernel
theorem dX7_witnessOf_36 : decode cX7_witnessOf 36 = .ok (.lmul, 1) := by decide +kernel
theorem dX7_witnessOf_37 : decode cX7_witnessOf 37 = .ok (.aload_n 0, 1) := by decide +kernel
theorem dX7_witnessOf_38 : decode cX7_witnessOf 38 = .ok (.getfield 30, 3) := by decide +kernel
theorem dX7_witnessOf_41 : decode cX7_witnessOf 41 = .ok (.iload_n 1, 1) := by decide +kernel
theorem dX7_witnessOf_42 : decode cX7_witnessOf 42 = .ok (.iaload, 1) := by decide +kernel
theorem dX7_witnessOf_43 : decode cX7_witnessOf 43 = .ok (.i2l, 1) := by decide +kernel
theorem dX7_witnessOf_44 : decode cX7_witnessOf 44 = .ok (.ladd, 1) := by decide +kernel
theorem dX7_witnessOf_45 : decode cX7_witnessOf 45 = .ok (.lstore_n 2, 1) := by decide +kernel
theorem dX7_witnessOf_46 : decode cX7_witnessOf 46 = .ok (.ldc2_w 245, 3) := by decide +kernel
theorem dX7_witnessOf_49 : decode cX7_witnessOf 49 = .ok (.lload_n 2, 1) := by decide +kernel
theorem dX7_witnessOf_50 : decode cX7_witnessOf 50 = .ok (.lmul, 1) := by decide +kernel
theorem dX7_witnessOf_51 : decode cX7_witnessOf 51 = .ok (.aload_n 0, 1) := by decide +kernel
theorem dX7_witnessOf_52 : decode cX7_witnessOf 52 = .ok (.getfield 33, 3) := by decide +kernel
theorem dX7_witnessOf_55 : decode cX7_witnessOf 55 = .ok (.iload_n 1, 1) := by decide +kernel
theorem dX7_witnessOf_56 : decode cX7_witnessOf 56 = .ok (.iaload, 1) := by decide +kernel
theorem dX7_witnessOf_57 : decode cX7_witnessOf 57 = .ok (.i2l, 1) := by decide +kernel
theorem dX7_witnessOf_58 : decode cX7_witnessOf 58 = .ok (.ladd, 1) := by decide +kernel
theorem dX7_witnessOf_59 : decode cX7_witnessOf 59 = .ok (.lstore_n 2, 1) := by decide +kernel
theorem dX7_witnessOf_60 : decode cX7_witnessOf 60 = .ok (.ldc2_w 245, 3) := by decide +kernel
theorem dX7_witnessOf_63 : decode cX7_witnessOf 63 = .ok (.lload_n 2, 1) := by decide +kernel
theorem dX7_witnessOf_64 : decode cX7_witnessOf 64 = .ok (.lmul, 1) := by decide +kernel
theorem dX7_witnessOf_65 : decode cX7_witnessOf 65 = .ok (.aload_n 0, 1) := by decide +kernel
theorem dX7_witnessOf_66 : decode cX7_witnessOf 66 = .ok (.getfield 36, 3) := by decide +kernel
theorem dX7_witnessOf_69 : decode cX7_witnessOf 69 = .ok (.iload_n 1, 1) := by decide +kernel
theorem dX7_witnessOf_70 : decode cX7_witnessOf 70 = .ok (.iaload, 1) := by decide +kernel
theorem dX7_witnessOf_71 : decode cX7_witnessOf 71 = .ok (.i2l, 1) := by decide +kernel
theorem dX7_witnessOf_72 : decode cX7_witnessOf 72 = .ok (.ladd, 1) := by decide +kernel
theorem dX7_witnessOf_73 : decode cX7_witnessOf 73 = .ok (.lstore_n 2, 1) := by decide +kernel
theorem dX7_witnessOf_74 : decode cX7_witnessOf 74 = .ok (.ldc2_w 245, 3) := by decide +kernel
theorem dX7_witnessOf_77 : decode cX7_witnessOf 77 = .ok (.lload_n 2, 1) := by decide +kernel
theorem dX7_witnessOf_78 : decode cX7_witnessOf 78 = .ok (.lmul, 1) := by decide +kernel
theorem dX7_witnessOf_79 : decode cX7_witnessOf 79 = .ok (.aload_n 0, 1) := by decide +kernel
theorem dX7_witnessOf_80 : decode cX7_witnessOf 80 = .ok (.getfield 54, 3) := by decide +kernel
theorem dX7_witnessOf_83 : decode cX7_witnessOf 83 = .ok (.iload_n 1, 1) := by decide +kernel
theorem dX7_witnessOf_84 : decode cX7_witnessOf 84 = .ok (.laload, 1) := by decide +kernel
theorem dX7_witnessOf_85 : decode cX7_witnessOf 85 = .ok (.ladd, 1) := by decide +kernel
theorem dX7_witnessOf_86 : decode cX7_witnessOf 86 = .ok (.lreturn, 1) := by decide +kernel
theorem dX7_witness_0 : decode cX7_witness 0 = .ok (.aload_n 0, 1) := by decide +kernel
theorem dX7_witness_1 : decode cX7_witness 1 = .ok (.iload_n 1, 1) := by decide +kernel
theorem dX7_witness_2 : decode cX7_witness 2 = .ok (.invokevirtual 155, 3) := by decide +kernel
theorem dX7_witness_5 : decode cX7_witness 5 = .ok (.ifCond .ne 9, 3) := by decide +kernel
theorem dX7_witness_8 : decode cX7_witness 8 = .ok (.ldc2_w 158, 3) := by decide +kernel
theorem dX7_witness_11 : decode cX7_witness 11 = .ok (.goto 24, 3) := by decide +kernel
theorem dX7_witness_14 : decode cX7_witness 14 = .ok (.aload_n 0, 1) := by decide +kernel
theorem dX7_witness_15 : decode cX7_witness 15 = .ok (.getfield 51, 3) := by decide +kernel
theorem dX7_witness_18 : decode cX7_witness 18 = .ok (.iload_n 1, 1) := by decide +kernel
theorem dX7_witness_19 : decode cX7_witness 19 = .ok (.iaload, 1) := by decide +kernel
theorem dX7_witness_20 : decode cX7_witness 20 = .ok (.iconst 1, 1) := by decide +kernel
theorem dX7_witness_21 : decode cX7_witness 21 = .ok (.if_icmp .eq 9, 3) := by decide +kernel
theorem dX7_witness_24 : decode cX7_witness 24 = .ok (.ldc2_w 160, 3) := by decide +kernel
theorem dX7_witness_27 : decode cX7_witness 27 = .ok (.goto 8, 3) := by decide +kernel
theorem dX7_witness_30 : decode cX7_witness 30 = .ok (.aload_n 0, 1) := by decide +kernel
theorem dX7_witness_31 : decode cX7_witness 31 = .ok (.iload_n 1, 1) := by decide +kernel
theorem dX7_witness_32 : decode cX7_witness 32 = .ok (.invokevirtual 247, 3) := by decide +kernel
theorem dX7_witness_35 : decode cX7_witness 35 = .ok (.lreturn, 1) := by decide +kernel
theorem dX7_check_0 : decode cX7_check 0 = .ok (.aload_n 0, 1) := by decide +kernel
theorem dX7_check_1 : decode cX7_check 1 = .ok (.iload_n 1, 1) := by decide +kernel
theorem dX7_check_2 : decode cX7_check 2 = .ok (.invokevirtual 155, 3) := by decide +kernel
theorem dX7_check_5 : decode cX7_check 5 = .ok (.ifCond .ne 8, 3) := by decide +kernel
theorem dX7_check_8 : decode cX7_check 8 = .ok (.ldc 140, 2) := by decide +kernel
theorem dX7_check_10 : decode cX7_check 10 = .ok (.goto 28, 3) := by decide +kernel
theorem dX7_check_13 : decode cX7_check 13 = .ok (.aload_n 0, 1) := by decide +kernel
theorem dX7_check_14 : decode cX7_check 14 = .ok (.getfield 51, 3) := by decide +kernel
theorem dX7_check_17 : decode cX7_check 17 = .ok (.iload_n 1, 1) := by decide +kernel
theorem dX7_check_18 : decode cX7_check 18 = .ok (.iaload, 1) := by decide +kernel
theorem dX7_check_19 : decode cX7_check 19 = .ok (.iconst 1, 1) := by decide +kernel
theorem dX7_check_20 : decode cX7_check 20 = .ok (.if_icmp .ne 17, 3) := by decide +kernel
theorem dX7_check_23 : decode cX7_check 23 = .ok (.aload_n 0, 1) := by decide +kernel
theorem dX7_check_24 : decode cX7_check 24 = .ok (.iload_n 1, 1) := by decide +kernel
theorem dX7_check_25 : decode cX7_check 25 = .ok (.invokevirtual 247, 3) := by decide +kernel
theorem dX7_check_28 : decode cX7_check 28 = .ok (.lload_n 2, 1) := by decide +kernel
theorem dX7_check_29 : decode cX7_check 29 = .ok (.lcmp, 1) := by decide +kernel
theorem dX7_check_30 : decode cX7_check 30 = .ok (.ifCond .ne 7, 3) := by decide +kernel
theorem dX7_check_33 : decode cX7_check 33 = .ok (.iconst 1, 1) := by decide +kernel
theorem dX7_check_34 : decode cX7_check 34 = .ok (.goto 4, 3) := by decide +kernel
theorem dX7_check_37 : decode cX7_check 37 = .ok (.iconst 0, 1) := by decide +kernel
theorem dX7_check_38 : decode cX7_check 38 = .ok (.ireturn, 1) := by decide +kernel
theorem dX7_count_0 : decode cX7_count 0 = .ok (.iconst 0, 1) := by decide +kernel
theorem dX7_count_1 : decode cX7_count 1 = .ok (.istore_n 2, 1) := by decide +kernel
theorem dX7_count_2 : decode cX7_count 2 = .ok (.iload_n 1, 1) := by decide +kernel
theorem dX7_count_3 : decode cX7_count 3 = .ok (.tableswitch 115 0 7 #[45, 50, 85, 90, 95, 100, 105, 110], 45) := by decide +kernel
theorem dX7_count_48 : decode cX7_count 48 = .ok (.aload_n 0, 1) := by decide +kernel
theorem dX7_count_49 : decode cX7_count 49 = .ok (.getfield 106, 3) := by decide +kernel
theorem dX7_count_52 : decode cX7_count 52 = .ok (.ireturn, 1) := by decide +kernel
theorem dX7_count_53 : decode cX7_count 53 = .ok (.iconst 0, 1) := by decide +kernel
theorem dX7_count_54 : decode cX7_count 54 = .ok (.istore_n 3, 1) := by decide +kernel
theorem dX7_count_55 : decode cX7_count 55 = .ok (.iload_n 3, 1) := by decide +kernel
theorem dX7_count_56 : decode cX7_count 56 = .ok (.aload_n 0, 1) := by decide +kernel
theorem dX7_count_57 : decode cX7_count 57 = .ok (.getfield 106, 3) := by decide +kernel
theorem dX7_count_60 : decode cX7_count 60 = .ok (.if_icmp .ge 26, 3) := by decide +kernel
theorem dX7_count_63 : decode cX7_count 63 = .ok (.iload_n 2, 1) := by decide +kernel
theorem dX7_count_64 : decode cX7_count 64 = .ok (.aload_n 0, 1) := by decide +kernel
theorem dX7_count_65 : decode cX7_count 65 = .ok (.getfield 51, 3) := by decide +kernel
theorem dX7_count_68 : decode cX7_count 68 = .ok (.iload_n 3, 1) := by decide +kernel
theorem dX7_count_69 : decode cX7_count 69 = .ok (.iaload, 1) := by decide +kernel
theorem dX7_count_70 : decode cX7_count 70 = .ok (.ifCond .ne 7, 3) := by decide +kernel
theorem dX7_count_73 : decode cX7_count 73 = .ok (.iconst 1, 1) := by decide +kernel
theorem dX7_count_74 : decode cX7_count 74 = .ok (.goto 4, 3) := by decide +kernel
theorem dX7_count_77 : decode cX7_count 77 = .ok (.iconst 0, 1) := by decide +kernel
theorem dX7_count_78 : decode cX7_count 78 = .ok (.iadd, 1) := by decide +kernel
theorem dX7_count_79 : decode cX7_count 79 = .ok (.istore_n 2, 1) := by decide +kernel
theorem dX7_count_80 : decode cX7_count 80 = .ok (.iinc 3 1, 3) := by decide +kernel
theorem dX7_count_83 : decode cX7_count 83 = .ok (.goto (-28), 3) := by decide +kernel
theorem dX7_count_86 : decode cX7_count 86 = .ok (.iload_n 2, 1) := by decide +kernel
theorem dX7_count_87 : decode cX7_count 87 = .ok (.ireturn, 1) := by decide +kernel
theorem dX7_count_88 : decode cX7_count 88 = .ok (.aload_n 0, 1) := by decide +kernel
theorem dX7_count_89 : decode cX7_count 89 = .ok (.getfield 124, 3) := by decide +kernel
theorem dX7_count_92 : decode cX7_count 92 = .ok (.ireturn, 1) := by decide +kernel
theorem dX7_count_93 : decode cX7_count 93 = .ok (.aload_n 0, 1) := by decide +kernel
theorem dX7_count_94 : decode cX7_count 94 = .ok (.getfield 222, 3) := by decide +kernel
theorem dX7_count_97 : decode cX7_count 97 = .ok (.ireturn, 1) := by decide +kernel
theorem dX7_count_98 : decode cX7_count 98 = .ok (.aload_n 0, 1) := by decide +kernel
theorem dX7_count_99 : decode cX7_count 99 = .ok (.getfield 127, 3) := by decide +kernel
theorem dX7_count_102 : decode cX7_count 102 = .ok (.ireturn, 1) := by decide +kernel
theorem dX7_count_103 : decode cX7_count 103 = .ok (.aload_n 0, 1) := by decide +kernel
theorem dX7_count_104 : decode cX7_count 104 = .ok (.getfield 215, 3) := by decide +kernel
theorem dX7_count_107 : decode cX7_count 107 = .ok (.ireturn, 1) := by decide +kernel
theorem dX7_count_108 : decode cX7_count 108 = .ok (.aload_n 0, 1) := by decide +kernel
theorem dX7_count_109 : decode cX7_count 109 = .ok (.getfield 166, 3) := by decide +kernel
theorem dX7_count_112 : decode cX7_count 112 = .ok (.ireturn, 1) := by decide +kernel
theorem dX7_count_113 : decode cX7_count 113 = .ok (.aload_n 0, 1) := by decide +kernel
theorem dX7_count_114 : decode cX7_count 114 = .ok (.getfield 102, 3) := by decide +kernel
theorem dX7_count_117 : decode cX7_count 117 = .ok (.ireturn, 1) := by decide +kernel
theorem dX7_count_118 : decode cX7_count 118 = .ok (.ldc 140, 2) := by decide +kernel
theorem dX7_count_120 : decode cX7_count 120 = .ok (.ireturn, 1) := by decide +kernel
end
section
theorem dL_cell_0 : decode cL_cell 0 = .ok (.iload_n 1, 1) := by decide +kernel
theorem dL_cell_1 : decode cL_cell 1 = .ok (.aload_n 0, 1) := by decide +kernel
theorem dL_cell_2 : decode cL_cell 2 = .ok (.arraylength, 1) := by decide +kernel
theorem dL_cell_3 : decode cL_cell 3 = .ok (.if_icmp .ge 9, 3) := by decide +kernel
theorem dL_cell_6 : decode cL_cell 6 = .ok (.aload_n 0, 1) := by decide +kernel
theorem dL_cell_7 : decode cL_cell 7 = .ok (.iload_n 1, 1) := by decide +kernel
theorem dL_cell_8 : decode cL_cell 8 = .ok (.iaload, 1) := by decide +kernel
theorem dL_cell_9 : decode cL_cell 9 = .ok (.goto 4, 3) := by decide +kernel
theorem dL_cell_12 : decode cL_cell 12 = .ok (.iconst 0, 1) := by decide +kernel
theorem dL_cell_13 : decode cL_cell 13 = .ok (.ireturn, 1) := by decide +kernel
theorem dL_law_0 : decode cL_law 0 = .ok (.new 7, 3) := by decide +kernel
theorem dL_law_3 : decode cL_law 3 = .ok (.dup, 1) := by decide +kernel
theorem dL_law_4 : decode cL_law 4 = .ok (.aload_n 0, 1) := by decide +kernel
theorem dL_law_5 : decode cL_law 5 = .ok (.iconst 0, 1) := by decide +kernel
theorem dL_law_6 : decode cL_law 6 = .ok (.invokestatic 9, 3) := by decide +kernel
theorem dL_law_9 : decode cL_law 9 = .ok (.invokespecial 15, 3) := by decide +kernel
theorem dL_law_12 : decode cL_law 12 = .ok (.astore_n 1, 1) := by decide +kernel
theorem dL_law_13 : decode cL_law 13 = .ok (.new 18, 3) := by decide +kernel
theorem dL_law_16 : decode cL_law 16 = .ok (.dup, 1) := by decide +kernel
theorem dL_law_17 : decode cL_law 17 = .ok (.aload_n 0, 1) := by decide +kernel
theorem dL_law_18 : decode cL_law 18 = .ok (.iconst 0, 1) := by decide +kernel
theorem dL_law_19 : decode cL_law 19 = .ok (.invokestatic 9, 3) := by decide +kernel
theorem dL_law_22 : decode cL_law 22 = .ok (.invokespecial 20, 3) := by decide +kernel
theorem dL_law_25 : decode cL_law 25 = .ok (.astore_n 2, 1) := by decide +kernel
theorem dL_law_26 : decode cL_law 26 = .ok (.iconst 1, 1) := by decide +kernel
theorem dL_law_27 : decode cL_law 27 = .ok (.istore_n 3, 1) := by decide +kernel
theorem dL_law_28 : decode cL_law 28 = .ok (.iload_n 3, 1) := by decide +kernel
theorem dL_law_29 : decode cL_law 29 = .ok (.aload_n 0, 1) := by decide +kernel
theorem dL_law_30 : decode cL_law 30 = .ok (.arraylength, 1) := by decide +kernel
theorem dL_law_31 : decode cL_law 31 = .ok (.bipush 8, 2) := by decide +kernel
theorem dL_law_33 : decode cL_law 33 = .ok (.isub, 1) := by decide +kernel
theorem dL_law_34 : decode cL_law 34 = .ok (.if_icmp .gt 830, 3) := by decide +kernel
theorem dL_law_37 : decode cL_law 37 = .ok (.aload_n 0, 1) := by decide +kernel
theorem dL_law_38 : decode cL_law 38 = .ok (.iload_n 3, 1) := by decide +kernel
theorem dL_law_39 : decode cL_law 39 = .ok (.iaload, 1) := by decide +kernel
theorem dL_law_40 : decode cL_law 40 = .ok (.bipush 31, 2) := by decide +kernel
theorem dL_law_42 : decode cL_law 42 = .ok (.iand, 1) := by decide +kernel
theorem dL_law_43 : decode cL_law 43 = .ok (.tableswitch 815 0 21 #[101, 188, 211, 244, 268, 301, 334, 357, 380, 403, 436, 459, 482, 505, 539, 582, 625, 658, 681, 705, 729, 792], 101) := by decide +kernel
theorem dL_law_144 : decode cL_law 144 = .ok (.aload_n 1, 1) := by decide +kernel
theorem dL_law_145 : decode cL_law 145 = .ok (.aload_n 0, 1) := by decide +kernel
theorem dL_law_146 : decode cL_law 146 = .ok (.iload_n 3, 1) := by decide +kernel
theorem dL_law_147 : decode cL_law 147 = .ok (.iconst 1, 1) := by decide +kernel
theorem dL_law_148 : decode cL_law 148 = .ok (.iadd, 1) := by decide +kernel
theorem dL_law_149 : decode cL_law 149 = .ok (.iaload, 1) := by decide +kernel
theorem dL_law_150 : decode cL_law 150 = .ok (.aload_n 0, 1) := by decide +kernel
theorem dL_law_151 : decode cL_law 151 = .ok (.iload_n 3, 1) := by decide +kernel
theorem dL_law_152 : decode cL_law 152 = .ok (.iconst 2, 1) := by decide +kernel
theorem dL_law_153 : decode cL_law 153 = .ok (.iadd, 1) := by decide +kernel
theorem dL_law_154 : decode cL_law 154 = .ok (.iaload, 1) := by decide +kernel
theorem dL_law_155 : decode cL_law 155 = .ok (.aload_n 0, 1) := by decide +kernel
theorem dL_law_156 : decode cL_law 156 = .ok (.iload_n 3, 1) := by decide +kernel
theorem dL_law_157 : decode cL_law 157 = .ok (.iconst 3, 1) := by decide +kernel
theorem dL_law_158 : decode cL_law 158 = .ok (.iadd, 1) := by decide +kernel
theorem dL_law_159 : decode cL_law 159 = .ok (.iaload, 1) := by decide +kernel
theorem dL_law_160 : decode cL_law 160 = .ok (.aload_n 0, 1) := by decide +kernel
theorem dL_law_161 : decode cL_law 161 = .ok (.iload_n 3, 1) := by decide +kernel
theorem dL_law_162 : decode cL_law 162 = .ok (.iconst 4, 1) := by decide +kernel
theorem dL_law_163 : decode cL_law 163 = .ok (.iadd, 1) := by decide +kernel
theorem dL_law_164 : decode cL_law 164 = .ok (.iaload, 1) := by decide +kernel
theorem dL_law_165 : decode cL_law 165 = .ok (.aload_n 0, 1) := by decide +kernel
theorem dL_law_166 : decode cL_law 166 = .ok (.iload_n 3, 1) := by decide +kernel
theorem dL_law_167 : decode cL_law 167 = .ok (.iconst 5, 1) := by decide +kernel
theorem dL_law_168 : decode cL_law 168 = .ok (.iadd, 1) := by decide +kernel
theorem dL_law_169 : decode cL_law 169 = .ok (.iaload, 1) := by decide +kernel
theorem dL_law_170 : decode cL_law 170 = .ok (.aload_n 0, 1) := by decide +kernel
theorem dL_law_171 : decode cL_law 171 = .ok (.iload_n 3, 1) := by decide +kernel
theorem dL_law_172 : decode cL_law 172 = .ok (.bipush 6, 2) := by decide +kernel
theorem dL_law_174 : decode cL_law 174 = .ok (.iadd, 1) := by decide +kernel
theorem dL_law_175 : decode cL_law 175 = .ok (.iaload, 1) := by decide +kernel
theorem dL_law_176 : decode cL_law 176 = .ok (.aload_n 0, 1) := by decide +kernel
theorem dL_law_177 : decode cL_law 177 = .ok (.iload_n 3, 1) := by decide +kernel
theorem dL_law_178 : decode cL_law 178 = .ok (.bipush 7, 2) := by decide +kernel
theorem dL_law_180 : decode cL_law 180 = .ok (.iadd, 1) := by decide +kernel
theorem dL_law_181 : decode cL_law 181 = .ok (.iaload, 1) := by decide +kernel
theorem dL_law_182 : decode cL_law 182 = .ok (.invokevirtual 21, 3) := by decide +kernel
theorem dL_law_185 : decode cL_law 185 = .ok (.aload_n 2, 1) := by decide +kernel
theorem dL_law_186 : decode cL_law 186 = .ok (.aload_n 0, 1) := by decide +kernel
theorem dL_law_187 : decode cL_law 187 = .ok (.iload_n 3, 1) := by decide +kernel
theorem dL_law_188 : decode cL_law 188 = .ok (.iconst 1, 1) := by decide +kernel
theorem dL_law_189 : decode cL_law 189 = .ok (.iadd, 1) := by decide +kernel
theorem dL_law_190 : decode cL_law 190 = .ok (.iaload, 1) := by decide +kernel
theorem dL_law_191 : decode cL_law 191 = .ok (.aload_n 0, 1) := by decide +kernel
theorem dL_law_192 : decode cL_law 192 = .ok (.iload_n 3, 1) := by decide +kernel
theorem dL_law_193 : decode cL_law 193 = .ok (.iconst 2, 1) := by decide +kernel
theorem dL_law_194 : decode cL_law 194 = .ok (.iadd, 1) := by decide +kernel
theorem dL_law_195 : decode cL_law 195 = .ok (.iaload, 1) := by decide +kernel
theorem dL_law_196 : decode cL_law 196 = .ok (.aload_n 0, 1) := by decide +kernel
theorem dL_law_197 : decode cL_law 197 = .ok (.iload_n 3, 1) := by decide +kernel
theorem dL_law_198 : decode cL_law 198 = .ok (.iconst 3, 1) := by decide +kernel
theorem dL_law_199 : decode cL_law 199 = .ok (.iadd, 1) := by decide +kernel
theorem dL_law_200 : decode cL_law 200 = .ok (.iaload, 1) := by decide +kernel
theorem dL_law_201 : decode cL_law 201 = .ok (.aload_n 0, 1) := by decide +kernel
theorem dL_law_202 : decode cL_law 202 = .ok (.iload_n 3, 1) := by decide +kernel
theorem dL_law_203 : decode cL_law 203 = .ok (.iconst 4, 1) := by decide +kernel
theorem dL_law_204 : decode cL_law 204 = .ok (.iadd, 1) := by decide +kernel
theorem dL_law_205 : decode cL_law 205 = .ok (.iaload, 1) := by decide +kernel
theorem dL_law_206 : decode cL_law 206 = .ok (.aload_n 0, 1) := by decide +kernel
theorem dL_law_207 : decode cL_law 207 = .ok (.iload_n 3, 1) := by decide +kernel
theorem dL_law_208 : decode cL_law 208 = .ok (.iconst 5, 1) := by decide +kernel
theorem dL_law_209 : decode cL_law 209 = .ok (.iadd, 1) := by decide +kernel
theorem dL_law_210 : decode cL_law 210 = .ok (.iaload, 1) := by decide +kernel
theorem dL_law_211 : decode cL_law 211 = .ok (.aload_n 0, 1) := by decide +kernel
theorem dL_law_212 : decode cL_law 212 = .ok (.iload_n 3, 1) := by decide +kernel
theorem dL_law_213 : decode cL_law 213 = .ok (.bipush 6, 2) := by decide +kernel
theorem dL_law_215 : decode cL_law 215 = .ok (.iadd, 1) := by decide +kernel
theorem dL_law_216 : decode cL_law 216 = .ok (.iaload, 1) := by decide +kernel
theorem dL_law_217 : decode cL_law 217 = .ok (.aload_n 0, 1) := by decide +kernel
theorem dL_law_218 : decode cL_law 218 = .ok (.iload_n 3, 1) := by decide +kernel
theorem dL_law_219 : decode cL_law 219 = .ok (.bipush 7, 2) := by decide +kernel
theorem dL_law_221 : decode cL_law 221 = .ok (.iadd, 1) := by decide +kernel
theorem dL_law_222 : decode cL_law 222 = .ok (.iaload, 1) := by decide +kernel
theorem dL_law_223 : decode cL_law 223 = .ok (.invokevirtual 25, 3) := by decide +kernel
theorem dL_law_226 : decode cL_law 226 = .ok (.if_icmp .eq 632, 3) := by decide +kernel
theorem dL_law_229 : decode cL_law 229 = .ok (.iconst 0, 1) := by decide +kernel
theorem dL_law_230 : decode cL_law 230 = .ok (.ireturn, 1) := by decide +kernel
theorem dL_law_231 : decode cL_law 231 = .ok (.aload_n 1, 1) := by decide +kernel
theorem dL_law_232 : decode cL_law 232 = .ok (.aload_n 0, 1) := by decide +kernel
theorem dL_law_233 : decode cL_law 233 = .ok (.iload_n 3, 1) := by decide +kernel
theorem dL_law_234 : decode cL_law 234 = .ok (.iconst 1, 1) := by decide +kernel
theorem dL_law_235 : decode cL_law 235 = .ok (.iadd, 1) := by decide +kernel
theorem dL_law_236 : decode cL_law 236 = .ok (.iaload, 1) := by decide +kernel
theorem dL_law_237 : decode cL_law 237 = .ok (.invokevirtual 26, 3) := by decide +kernel
theorem dL_law_240 : decode cL_law 240 = .ok (.aload_n 2, 1) := by decide +kernel
theorem dL_law_241 : decode cL_law 241 = .ok (.aload_n 0, 1) := by decide +kernel
theorem dL_law_242 : decode cL_law 242 = .ok (.iload_n 3, 1) := by decide +kernel
theorem dL_law_243 : decode cL_law 243 = .ok (.iconst 1, 1) := by decide +kernel
theorem dL_law_244 : decode cL_law 244 = .ok (.iadd, 1) := by decide +kernel
theorem dL_law_245 : decode cL_law 245 = .ok (.iaload, 1) := by decide +kernel
theorem dL_law_246 : decode cL_law 246 = .ok (.invokevirtual 30, 3) := by decide +kernel
theorem dL_law_249 : decode cL_law 249 = .ok (.if_icmp .eq 609, 3) := by decide +kernel
theorem dL_law_252 : decode cL_law 252 = .ok (.iconst 0, 1) := by decide +kernel
theorem dL_law_253 : decode cL_law 253 = .ok (.ireturn, 1) := by decide +kernel
theorem dL_law_254 : decode cL_law 254 = .ok (.aload_n 1, 1) := by decide +kernel
theorem dL_law_255 : decode cL_law 255 = .ok (.aload_n 0, 1) := by decide +kernel
theorem dL_law_256 : decode cL_law 256 = .ok (.iload_n 3, 1) := by decide +kernel
theorem dL_law_257 : decode cL_law 257 = .ok (.iconst 1, 1) := by decide +kernel
theorem dL_law_258 : decode cL_law 258 = .ok (.iadd, 1) := by decide +kernel
theorem dL_law_259 : decode cL_law 259 = .ok (.iaload, 1) := by decide +kernel
theorem dL_law_260 : decode cL_law 260 = .ok (.aload_n 0, 1) := by decide +kernel
theorem dL_law_261 : decode cL_law 261 = .ok (.iload_n 3, 1) := by decide +kernel
theorem dL_law_262 : decode cL_law 262 = .ok (.iconst 2, 1) := by decide +kernel
theorem dL_law_263 : decode cL_law 263 = .ok (.iadd, 1) := by decide +kernel
theorem dL_law_264 : decode cL_law 264 = .ok (.iaload, 1) := by decide +kernel
theorem dL_law_265 : decode cL_law 265 = .ok (.invokevirtual 31, 3) := by decide +kernel
theorem dL_law_268 : decode cL_law 268 = .ok (.aload_n 2, 1) := by decide +kernel
theorem dL_law_269 : decode cL_law 269 = .ok (.aload_n 0, 1) := by decide +kernel
theorem dL_law_270 : decode cL_law 270 = .ok (.iload_n 3, 1) := by decide +kernel
theorem dL_law_271 : decode cL_law 271 = .ok (.iconst 1, 1) := by decide +kernel
theorem dL_law_272 : decode cL_law 272 = .ok (.iadd, 1) := by decide +kernel
theorem dL_law_273 : decode cL_law 273 = .ok (.iaload, 1) := by decide +kernel
theorem dL_law_274 : decode cL_law 274 = .ok (.aload_n 0, 1) := by decide +kernel
theorem dL_law_275 : decode cL_law 275 = .ok (.iload_n 3, 1) := by decide +kernel
theorem dL_law_276 : decode cL_law 276 = .ok (.iconst 2, 1) := by decide +kernel
theorem dL_law_277 : decode cL_law 277 = .ok (.iadd, 1) := by decide +kernel
theorem dL_law_278 : decode cL_law 278 = .ok (.iaload, 1) := by decide +kernel
theorem dL_law_279 : decode cL_law 279 = .ok (.invokevirtual 35, 3) := by decide +kernel
theorem dL_law_282 : decode cL_law 282 = .ok (.if_icmp .eq 576, 3) := by decide +kernel
theorem dL_law_285 : decode cL_law 285 = .ok (.iconst 0, 1) := by decide +kernel
theorem dL_law_286 : decode cL_law 286 = .ok (.ireturn, 1) := by decide +kernel
theorem dL_law_287 : decode cL_law 287 = .ok (.aload_n 1, 1) := by decide +kernel
theorem dL_law_288 : decode cL_law 288 = .ok (.aload_n 0, 1) := by decide +kernel
theorem dL_law_289 : decode cL_law 289 = .ok (.iload_n 3, 1) := by decide +kernel
theorem dL_law_290 : decode cL_law 290 = .ok (.iconst 1, 1) := by decide +kernel
theorem dL_law_291 : decode cL_law 291 = .ok (.iadd, 1) := by decide +kernel
theorem dL_law_292 : decode cL_law 292 = .ok (.iaload, 1) := by decide +kernel
theorem dL_law_293 : decode cL_law 293 = .ok (.invokevirtual 36, 3) := by decide +kernel
theorem dL_law_296 : decode cL_law 296 = .ok (.aload_n 2, 1) := by decide +kernel
theorem dL_law_297 : decode cL_law 297 = .ok (.aload_n 0, 1) := by decide +kernel
theorem dL_law_298 : decode cL_law 298 = .ok (.iload_n 3, 1) := by decide +kernel
theorem dL_law_299 : decode cL_law 299 = .ok (.iconst 1, 1) := by decide +kernel
theorem dL_law_300 : decode cL_law 300 = .ok (.iadd, 1) := by decide +kernel
theorem dL_law_301 : decode cL_law 301 = .ok (.iaload, 1) := by decide +kernel
theorem dL_law_302 : decode cL_law 302 = .ok (.invokevirtual 40, 3) := by decide +kernel
theorem dL_law_305 : decode cL_law 305 = .ok (.lcmp, 1) := by decide +kernel
theorem dL_law_306 : decode cL_law 306 = .ok (.ifCond .eq 552, 3) := by decide +kernel
theorem dL_law_309 : decode cL_law 309 = .ok (.iconst 0, 1) := by decide +kernel
theorem dL_law_310 : decode cL_law 310 = .ok (.ireturn, 1) := by decide +kernel
theorem dL_law_311 : decode cL_law 311 = .ok (.aload_n 1, 1) := by decide +kernel
theorem dL_law_312 : decode cL_law 312 = .ok (.aload_n 0, 1) := by decide +kernel
theorem dL_law_313 : decode cL_law 313 = .ok (.iload_n 3, 1) := by decide +kernel
theorem dL_law_314 : decode cL_law 314 = .ok (.iconst 1, 1) := by decide +kernel
theorem dL_law_315 : decode cL_law 315 = .ok (.iadd, 1) := by decide +kernel
theorem dL_law_316 : decode cL_law 316 = .ok (.iaload, 1) := by decide +kernel
theorem dL_law_317 : decode cL_law 317 = .ok (.aload_n 0, 1) := by decide +kernel
theorem dL_law_318 : decode cL_law 318 = .ok (.iload_n 3, 1) := by decide +kernel
theorem dL_law_319 : decode cL_law 319 = .ok (.iconst 2, 1) := by decide +kernel
theorem dL_law_320 : decode cL_law 320 = .ok (.iadd, 1) := by decide +kernel
theorem dL_law_321 : decode cL_law 321 = .ok (.iaload, 1) := by decide +kernel
theorem dL_law_322 : decode cL_law 322 = .ok (.invokevirtual 41, 3) := by decide +kernel
theorem dL_law_325 : decode cL_law 325 = .ok (.aload_n 2, 1) := by decide +kernel
theorem dL_law_326 : decode cL_law 326 = .ok (.aload_n 0, 1) := by decide +kernel
theorem dL_law_327 : decode cL_law 327 = .ok (.iload_n 3, 1) := by decide +kernel
theorem dL_law_328 : decode cL_law 328 = .ok (.iconst 1, 1) := by decide +kernel
theorem dL_law_329 : decode cL_law 329 = .ok (.iadd, 1) := by decide +kernel
theorem dL_law_330 : decode cL_law 330 = .ok (.iaload, 1) := by decide +kernel
theorem dL_law_331 : decode cL_law 331 = .ok (.aload_n 0, 1) := by decide +kernel
theorem dL_law_332 : decode cL_law 332 = .ok (.iload_n 3, 1) := by decide +kernel
theorem dL_law_333 : decode cL_law 333 = .ok (.iconst 2, 1) := by decide +kernel
theorem dL_law_334 : decode cL_law 334 = .ok (.iadd, 1) := by decide +kernel
theorem dL_law_335 : decode cL_law 335 = .ok (.iaload, 1) := by decide +kernel
theorem dL_law_336 : decode cL_law 336 = .ok (.invokevirtual 44, 3) := by decide +kernel
theorem dL_law_339 : decode cL_law 339 = .ok (.if_icmp .eq 519, 3) := by decide +kernel
theorem dL_law_342 : decode cL_law 342 = .ok (.iconst 0, 1) := by decide +kernel
theorem dL_law_343 : decode cL_law 343 = .ok (.ireturn, 1) := by decide +kernel
theorem dL_law_344 : decode cL_law 344 = .ok (.aload_n 1, 1) := by decide +kernel
theorem dL_law_345 : decode cL_law 345 = .ok (.aload_n 0, 1) := by decide +kernel
theorem dL_law_346 : decode cL_law 346 = .ok (.iload_n 3, 1) := by decide +kernel
theorem dL_law_347 : decode cL_law 347 = .ok (.iconst 1, 1) := by decide +kernel
theorem dL_law_348 : decode cL_law 348 = .ok (.iadd, 1) := by decide +kernel
theorem dL_law_349 : decode cL_law 349 = .ok (.iaload, 1) := by decide +kernel
theorem dL_law_350 : decode cL_law 350 = .ok (.aload_n 0, 1) := by decide +kernel
theorem dL_law_351 : decode cL_law 351 = .ok (.iload_n 3, 1) := by decide +kernel
theorem dL_law_352 : decode cL_law 352 = .ok (.iconst 2, 1) := by decide +kernel
theorem dL_law_353 : decode cL_law 353 = .ok (.iadd, 1) := by decide +kernel
theorem dL_law_354 : decode cL_law 354 = .ok (.iaload, 1) := by decide +kernel
theorem dL_law_355 : decode cL_law 355 = .ok (.invokevirtual 45, 3) := by decide +kernel
theorem dL_law_358 : decode cL_law 358 = .ok (.aload_n 2, 1) := by decide +kernel
theorem dL_law_359 : decode cL_law 359 = .ok (.aload_n 0, 1) := by decide +kernel
theorem dL_law_360 : decode cL_law 360 = .ok (.iload_n 3, 1) := by decide +kernel
theorem dL_law_361 : decode cL_law 361 = .ok (.iconst 1, 1) := by decide +kernel
theorem dL_law_362 : decode cL_law 362 = .ok (.iadd, 1) := by decide +kernel
theorem dL_law_363 : decode cL_law 363 = .ok (.iaload, 1) := by decide +kernel
theorem dL_law_364 : decode cL_law 364 = .ok (.aload_n 0, 1) := by decide +kernel
theorem dL_law_365 : decode cL_law 365 = .ok (.iload_n 3, 1) := by decide +kernel
theorem dL_law_366 : decode cL_law 366 = .ok (.iconst 2, 1) := by decide +kernel
theorem dL_law_367 : decode cL_law 367 = .ok (.iadd, 1) := by decide +kernel
theorem dL_law_368 : decode cL_law 368 = .ok (.iaload, 1) := by decide +kernel
theorem dL_law_369 : decode cL_law 369 = .ok (.invokevirtual 48, 3) := by decide +kernel
theorem dL_law_372 : decode cL_law 372 = .ok (.if_icmp .eq 486, 3) := by decide +kernel
theorem dL_law_375 : decode cL_law 375 = .ok (.iconst 0, 1) := by decide +kernel
theorem dL_law_376 : decode cL_law 376 = .ok (.ireturn, 1) := by decide +kernel
theorem dL_law_377 : decode cL_law 377 = .ok (.aload_n 1, 1) := by decide +kernel
theorem dL_law_378 : decode cL_law 378 = .ok (.aload_n 0, 1) := by decide +kernel
theorem dL_law_379 : decode cL_law 379 = .ok (.iload_n 3, 1) := by decide +kernel
theorem dL_law_380 : decode cL_law 380 = .ok (.iconst 1, 1) := by decide +kernel
theorem dL_law_381 : decode cL_law 381 = .ok (.iadd, 1) := by decide +kernel
theorem dL_law_382 : decode cL_law 382 = .ok (.iaload, 1) := by decide +kernel
theorem dL_law_383 : decode cL_law 383 = .ok (.invokevirtual 49, 3) := by decide +kernel
theorem dL_law_386 : decode cL_law 386 = .ok (.aload_n 2, 1) := by decide +kernel
theorem dL_law_387 : decode cL_law 387 = .ok (.aload_n 0, 1) := by decide +kernel
theorem dL_law_388 : decode cL_law 388 = .ok (.iload_n 3, 1) := by decide +kernel
theorem dL_law_389 : decode cL_law 389 = .ok (.iconst 1, 1) := by decide +kernel
theorem dL_law_390 : decode cL_law 390 = .ok (.iadd, 1) := by decide +kernel
theorem dL_law_391 : decode cL_law 391 = .ok (.iaload, 1) := by decide +kernel
theorem dL_law_392 : decode cL_law 392 = .ok (.invokevirtual 52, 3) := by decide +kernel
theorem dL_law_395 : decode cL_law 395 = .ok (.if_icmp .eq 463, 3) := by decide +kernel
theorem dL_law_398 : decode cL_law 398 = .ok (.iconst 0, 1) := by decide +kernel
theorem dL_law_399 : decode cL_law 399 = .ok (.ireturn, 1) := by decide +kernel
theorem dL_law_400 : decode cL_law 400 = .ok (.aload_n 1, 1) := by decide +kernel
theorem dL_law_401 : decode cL_law 401 = .ok (.aload_n 0, 1) := by decide +kernel
theorem dL_law_402 : decode cL_law 402 = .ok (.iload_n 3, 1) := by decide +kernel
theorem dL_law_403 : decode cL_law 403 = .ok (.iconst 1, 1) := by decide +kernel
theorem dL_law_404 : decode cL_law 404 = .ok (.iadd, 1) := by decide +kernel
theorem dL_law_405 : decode cL_law 405 = .ok (.iaload, 1) := by decide +kernel
theorem dL_law_406 : decode cL_law 406 = .ok (.invokevirtual 53, 3) := by decide +kernel
theorem dL_law_409 : decode cL_law 409 = .ok (.aload_n 2, 1) := by decide +kernel
theorem dL_law_410 : decode cL_law 410 = .ok (.aload_n 0, 1) := by decide +kernel
theorem dL_law_411 : decode cL_law 411 = .ok (.iload_n 3, 1) := by decide +kernel
theorem dL_law_412 : decode cL_law 412 = .ok (.iconst 1, 1) := by decide +kernel
theorem dL_law_413 : decode cL_law 413 = .ok (.iadd, 1) := by decide +kernel
theorem dL_law_414 : decode cL_law 414 = .ok (.iaload, 1) := by decide +kernel
theorem dL_law_415 : decode cL_law 415 = .ok (.invokevirtual 56, 3) := by decide +kernel
theorem dL_law_418 : decode cL_law 418 = .ok (.if_icmp .eq 440, 3) := by decide +kernel
theorem dL_law_421 : decode cL_law 421 = .ok (.iconst 0, 1) := by decide +kernel
theorem dL_law_422 : decode cL_law 422 = .ok (.ireturn, 1) := by decide +kernel
theorem dL_law_423 : decode cL_law 423 = .ok (.aload_n 1, 1) := by decide +kernel
theorem dL_law_424 : decode cL_law 424 = .ok (.aload_n 0, 1) := by decide +kernel
theorem dL_law_425 : decode cL_law 425 = .ok (.iload_n 3, 1) := by decide +kernel
theorem dL_law_426 : decode cL_law 426 = .ok (.iconst 1, 1) := by decide +kernel
theorem dL_law_427 : decode cL_law 427 = .ok (.iadd, 1) := by decide +kernel
theorem dL_law_428 : decode cL_law 428 = .ok (.iaload, 1) := by decide +kernel
theorem dL_law_429 : decode cL_law 429 = .ok (.invokevirtual 57, 3) := by decide +kernel
theorem dL_law_432 : decode cL_law 432 = .ok (.aload_n 2, 1) := by decide +kernel
theorem dL_law_433 : decode cL_law 433 = .ok (.aload_n 0, 1) := by decide +kernel
theorem dL_law_434 : decode cL_law 434 = .ok (.iload_n 3, 1) := by decide +kernel
theorem dL_law_435 : decode cL_law 435 = .ok (.iconst 1, 1) := by decide +kernel
theorem dL_law_436 : decode cL_law 436 = .ok (.iadd, 1) := by decide +kernel
theorem dL_law_437 : decode cL_law 437 = .ok (.iaload, 1) := by decide +kernel
theorem dL_law_438 : decode cL_law 438 = .ok (.invokevirtual 60, 3) := by decide +kernel
theorem dL_law_441 : decode cL_law 441 = .ok (.if_icmp .eq 417, 3) := by decide +kernel
theorem dL_law_444 : decode cL_law 444 = .ok (.iconst 0, 1) := by decide +kernel
theorem dL_law_445 : decode cL_law 445 = .ok (.ireturn, 1) := by decide +kernel
theorem dL_law_446 : decode cL_law 446 = .ok (.aload_n 1, 1) := by decide +kernel
theorem dL_law_447 : decode cL_law 447 = .ok (.aload_n 0, 1) := by decide +kernel
theorem dL_law_448 : decode cL_law 448 = .ok (.iload_n 3, 1) := by decide +kernel
theorem dL_law_449 : decode cL_law 449 = .ok (.iconst 1, 1) := by decide +kernel
theorem dL_law_450 : decode cL_law 450 = .ok (.iadd, 1) := by decide +kernel
theorem dL_law_451 : decode cL_law 451 = .ok (.iaload, 1) := by decide +kernel
theorem dL_law_452 : decode cL_law 452 = .ok (.aload_n 0, 1) := by decide +kernel
theorem dL_law_453 : decode cL_law 453 = .ok (.iload_n 3, 1) := by decide +kernel
theorem dL_law_454 : decode cL_law 454 = .ok (.iconst 2, 1) := by decide +kernel
theorem dL_law_455 : decode cL_law 455 = .ok (.iadd, 1) := by decide +kernel
theorem dL_law_456 : decode cL_law 456 = .ok (.iaload, 1) := by decide +kernel
theorem dL_law_457 : decode cL_law 457 = .ok (.invokevirtual 61, 3) := by decide +kernel
theorem dL_law_460 : decode cL_law 460 = .ok (.aload_n 2, 1) := by decide +kernel
theorem dL_law_461 : decode cL_law 461 = .ok (.aload_n 0, 1) := by decide +kernel
theorem dL_law_462 : decode cL_law 462 = .ok (.iload_n 3, 1) := by decide +kernel
theorem dL_law_463 : decode cL_law 463 = .ok (.iconst 1, 1) := by decide +kernel
theorem dL_law_464 : decode cL_law 464 = .ok (.iadd, 1) := by decide +kernel
theorem dL_law_465 : decode cL_law 465 = .ok (.iaload, 1) := by decide +kernel
theorem dL_law_466 : decode cL_law 466 = .ok (.aload_n 0, 1) := by decide +kernel
theorem dL_law_467 : decode cL_law 467 = .ok (.iload_n 3, 1) := by decide +kernel
theorem dL_law_468 : decode cL_law 468 = .ok (.iconst 2, 1) := by decide +kernel
theorem dL_law_469 : decode cL_law 469 = .ok (.iadd, 1) := by decide +kernel
theorem dL_law_470 : decode cL_law 470 = .ok (.iaload, 1) := by decide +kernel
theorem dL_law_471 : decode cL_law 471 = .ok (.invokevirtual 64, 3) := by decide +kernel
theorem dL_law_474 : decode cL_law 474 = .ok (.if_icmp .eq 384, 3) := by decide +kernel
theorem dL_law_477 : decode cL_law 477 = .ok (.iconst 0, 1) := by decide +kernel
theorem dL_law_478 : decode cL_law 478 = .ok (.ireturn, 1) := by decide +kernel
theorem dL_law_479 : decode cL_law 479 = .ok (.aload_n 1, 1) := by decide +kernel
theorem dL_law_480 : decode cL_law 480 = .ok (.aload_n 0, 1) := by decide +kernel
theorem dL_law_481 : decode cL_law 481 = .ok (.iload_n 3, 1) := by decide +kernel
theorem dL_law_482 : decode cL_law 482 = .ok (.iconst 1, 1) := by decide +kernel
theorem dL_law_483 : decode cL_law 483 = .ok (.iadd, 1) := by decide +kernel
theorem dL_law_484 : decode cL_law 484 = .ok (.iaload, 1) := by decide +kernel
theorem dL_law_485 : decode cL_law 485 = .ok (.invokevirtual 65, 3) := by decide +kernel
theorem dL_law_488 : decode cL_law 488 = .ok (.aload_n 2, 1) := by decide +kernel
theorem dL_law_489 : decode cL_law 489 = .ok (.aload_n 0, 1) := by decide +kernel
theorem dL_law_490 : decode cL_law 490 = .ok (.iload_n 3, 1) := by decide +kernel
theorem dL_law_491 : decode cL_law 491 = .ok (.iconst 1, 1) := by decide +kernel
theorem dL_law_492 : decode cL_law 492 = .ok (.iadd, 1) := by decide +kernel
theorem dL_law_493 : decode cL_law 493 = .ok (.iaload, 1) := by decide +kernel
theorem dL_law_494 : decode cL_law 494 = .ok (.invokevirtual 68, 3) := by decide +kernel
theorem dL_law_497 : decode cL_law 497 = .ok (.if_icmp .eq 361, 3) := by decide +kernel
theorem dL_law_500 : decode cL_law 500 = .ok (.iconst 0, 1) := by decide +kernel
theorem dL_law_501 : decode cL_law 501 = .ok (.ireturn, 1) := by decide +kernel
theorem dL_law_502 : decode cL_law 502 = .ok (.aload_n 1, 1) := by decide +kernel
theorem dL_law_503 : decode cL_law 503 = .ok (.aload_n 0, 1) := by decide +kernel
theorem dL_law_504 : decode cL_law 504 = .ok (.iload_n 3, 1) := by decide +kernel
theorem dL_law_505 : decode cL_law 505 = .ok (.iconst 1, 1) := by decide +kernel
theorem dL_law_506 : decode cL_law 506 = .ok (.iadd, 1) := by decide +kernel
theorem dL_law_507 : decode cL_law 507 = .ok (.iaload, 1) := by decide +kernel
theorem dL_law_508 : decode cL_law 508 = .ok (.invokevirtual 69, 3) := by decide +kernel
theorem dL_law_511 : decode cL_law 511 = .ok (.aload_n 2, 1) := by decide +kernel
theorem dL_law_512 : decode cL_law 512 = .ok (.aload_n 0, 1) := by decide +kernel
theorem dL_law_513 : decode cL_law 513 = .ok (.iload_n 3, 1) := by decide +kernel
theorem dL_law_514 : decode cL_law 514 = .ok (.iconst 1, 1) := by decide +kernel
theorem dL_law_515 : decode cL_law 515 = .ok (.iadd, 1) := by decide +kernel
theorem dL_law_516 : decode cL_law 516 = .ok (.iaload, 1) := by decide +kernel
theorem dL_law_517 : decode cL_law 517 = .ok (.invokevirtual 72, 3) := by decide +kernel
theorem dL_law_520 : decode cL_law 520 = .ok (.if_icmp .eq 338, 3) := by decide +kernel
theorem dL_law_523 : decode cL_law 523 = .ok (.iconst 0, 1) := by decide +kernel
theorem dL_law_524 : decode cL_law 524 = .ok (.ireturn, 1) := by decide +kernel
theorem dL_law_525 : decode cL_law 525 = .ok (.aload_n 1, 1) := by decide +kernel
theorem dL_law_526 : decode cL_law 526 = .ok (.aload_n 0, 1) := by decide +kernel
theorem dL_law_527 : decode cL_law 527 = .ok (.iload_n 3, 1) := by decide +kernel
theorem dL_law_528 : decode cL_law 528 = .ok (.iconst 1, 1) := by decide +kernel
theorem dL_law_529 : decode cL_law 529 = .ok (.iadd, 1) := by decide +kernel
theorem dL_law_530 : decode cL_law 530 = .ok (.iaload, 1) := by decide +kernel
theorem dL_law_531 : decode cL_law 531 = .ok (.invokevirtual 73, 3) := by decide +kernel
theorem dL_law_534 : decode cL_law 534 = .ok (.aload_n 2, 1) := by decide +kernel
theorem dL_law_535 : decode cL_law 535 = .ok (.aload_n 0, 1) := by decide +kernel
theorem dL_law_536 : decode cL_law 536 = .ok (.iload_n 3, 1) := by decide +kernel
theorem dL_law_537 : decode cL_law 537 = .ok (.iconst 1, 1) := by decide +kernel
theorem dL_law_538 : decode cL_law 538 = .ok (.iadd, 1) := by decide +kernel
theorem dL_law_539 : decode cL_law 539 = .ok (.iaload, 1) := by decide +kernel
theorem dL_law_540 : decode cL_law 540 = .ok (.invokevirtual 76, 3) := by decide +kernel
theorem dL_law_543 : decode cL_law 543 = .ok (.if_icmp .eq 315, 3) := by decide +kernel
theorem dL_law_546 : decode cL_law 546 = .ok (.iconst 0, 1) := by decide +kernel
theorem dL_law_547 : decode cL_law 547 = .ok (.ireturn, 1) := by decide +kernel
theorem dL_law_548 : decode cL_law 548 = .ok (.aload_n 1, 1) := by decide +kernel
theorem dL_law_549 : decode cL_law 549 = .ok (.aload_n 0, 1) := by decide +kernel
theorem dL_law_550 : decode cL_law 550 = .ok (.iload_n 3, 1) := by decide +kernel
theorem dL_law_551 : decode cL_law 551 = .ok (.iconst 1, 1) := by decide +kernel
theorem dL_law_552 : decode cL_law 552 = .ok (.iadd, 1) := by decide +kernel
theorem dL_law_553 : decode cL_law 553 = .ok (.iaload, 1) := by decide +kernel
theorem dL_law_554 : decode cL_law 554 = .ok (.aload_n 0, 1) := by decide +kernel
theorem dL_law_555 : decode cL_law 555 = .ok (.iload_n 3, 1) := by decide +kernel
theorem dL_law_556 : decode cL_law 556 = .ok (.iconst 2, 1) := by decide +kernel
theorem dL_law_557 : decode cL_law 557 = .ok (.iadd, 1) := by decide +kernel
theorem dL_law_558 : decode cL_law 558 = .ok (.iaload, 1) := by decide +kernel
theorem dL_law_559 : decode cL_law 559 = .ok (.invokevirtual 77, 3) := by decide +kernel
theorem dL_law_562 : decode cL_law 562 = .ok (.aload_n 2, 1) := by decide +kernel
theorem dL_law_563 : decode cL_law 563 = .ok (.aload_n 0, 1) := by decide +kernel
theorem dL_law_564 : decode cL_law 564 = .ok (.iload_n 3, 1) := by decide +kernel
theorem dL_law_565 : decode cL_law 565 = .ok (.iconst 1, 1) := by decide +kernel
theorem dL_law_566 : decode cL_law 566 = .ok (.iadd, 1) := by decide +kernel
theorem dL_law_567 : decode cL_law 567 = .ok (.iaload, 1) := by decide +kernel
theorem dL_law_568 : decode cL_law 568 = .ok (.aload_n 0, 1) := by decide +kernel
theorem dL_law_569 : decode cL_law 569 = .ok (.iload_n 3, 1) := by decide +kernel
theorem dL_law_570 : decode cL_law 570 = .ok (.iconst 2, 1) := by decide +kernel
theorem dL_law_571 : decode cL_law 571 = .ok (.iadd, 1) := by decide +kernel
theorem dL_law_572 : decode cL_law 572 = .ok (.iaload, 1) := by decide +kernel
theorem dL_law_573 : decode cL_law 573 = .ok (.invokevirtual 81, 3) := by decide +kernel
theorem dL_law_576 : decode cL_law 576 = .ok (.lcmp, 1) := by decide +kernel
theorem dL_law_577 : decode cL_law 577 = .ok (.ifCond .eq 281, 3) := by decide +kernel
theorem dL_law_580 : decode cL_law 580 = .ok (.iconst 0, 1) := by decide +kernel
theorem dL_law_581 : decode cL_law 581 = .ok (.ireturn, 1) := by decide +kernel
theorem dL_law_582 : decode cL_law 582 = .ok (.aload_n 1, 1) := by decide +kernel
theorem dL_law_583 : decode cL_law 583 = .ok (.aload_n 0, 1) := by decide +kernel
theorem dL_law_584 : decode cL_law 584 = .ok (.iload_n 3, 1) := by decide +kernel
theorem dL_law_585 : decode cL_law 585 = .ok (.iconst 1, 1) := by decide +kernel
theorem dL_law_586 : decode cL_law 586 = .ok (.iadd, 1) := by decide +kernel
theorem dL_law_587 : decode cL_law 587 = .ok (.iaload, 1) := by decide +kernel
theorem dL_law_588 : decode cL_law 588 = .ok (.aload_n 0, 1) := by decide +kernel
theorem dL_law_589 : decode cL_law 589 = .ok (.iload_n 3, 1) := by decide +kernel
theorem dL_law_590 : decode cL_law 590 = .ok (.iconst 2, 1) := by decide +kernel
theorem dL_law_591 : decode cL_law 591 = .ok (.iadd, 1) := by decide +kernel
theorem dL_law_592 : decode cL_law 592 = .ok (.iaload, 1) := by decide +kernel
theorem dL_law_593 : decode cL_law 593 = .ok (.aload_n 0, 1) := by decide +kernel
theorem dL_law_594 : decode cL_law 594 = .ok (.iload_n 3, 1) := by decide +kernel
theorem dL_law_595 : decode cL_law 595 = .ok (.iconst 3, 1) := by decide +kernel
theorem dL_law_596 : decode cL_law 596 = .ok (.iadd, 1) := by decide +kernel
theorem dL_law_597 : decode cL_law 597 = .ok (.iaload, 1) := by decide +kernel
theorem dL_law_598 : decode cL_law 598 = .ok (.invokevirtual 82, 3) := by decide +kernel
theorem dL_law_601 : decode cL_law 601 = .ok (.aload_n 2, 1) := by decide +kernel
theorem dL_law_602 : decode cL_law 602 = .ok (.aload_n 0, 1) := by decide +kernel
theorem dL_law_603 : decode cL_law 603 = .ok (.iload_n 3, 1) := by decide +kernel
theorem dL_law_604 : decode cL_law 604 = .ok (.iconst 1, 1) := by decide +kernel
theorem dL_law_605 : decode cL_law 605 = .ok (.iadd, 1) := by decide +kernel
theorem dL_law_606 : decode cL_law 606 = .ok (.iaload, 1) := by decide +kernel
theorem dL_law_607 : decode cL_law 607 = .ok (.aload_n 0, 1) := by decide +kernel
theorem dL_law_608 : decode cL_law 608 = .ok (.iload_n 3, 1) := by decide +kernel
theorem dL_law_609 : decode cL_law 609 = .ok (.iconst 2, 1) := by decide +kernel
theorem dL_law_610 : decode cL_law 610 = .ok (.iadd, 1) := by decide +kernel
theorem dL_law_611 : decode cL_law 611 = .ok (.iaload, 1) := by decide +kernel
theorem dL_law_612 : decode cL_law 612 = .ok (.aload_n 0, 1) := by decide +kernel
theorem dL_law_613 : decode cL_law 613 = .ok (.iload_n 3, 1) := by decide +kernel
theorem dL_law_614 : decode cL_law 614 = .ok (.iconst 3, 1) := by decide +kernel
theorem dL_law_615 : decode cL_law 615 = .ok (.iadd, 1) := by decide +kernel
theorem dL_law_616 : decode cL_law 616 = .ok (.iaload, 1) := by decide +kernel
theorem dL_law_617 : decode cL_law 617 = .ok (.invokevirtual 86, 3) := by decide +kernel
theorem dL_law_620 : decode cL_law 620 = .ok (.if_icmp .eq 238, 3) := by decide +kernel
theorem dL_law_623 : decode cL_law 623 = .ok (.iconst 0, 1) := by decide +kernel
theorem dL_law_624 : decode cL_law 624 = .ok (.ireturn, 1) := by decide +kernel
theorem dL_law_625 : decode cL_law 625 = .ok (.aload_n 1, 1) := by decide +kernel
theorem dL_law_626 : decode cL_law 626 = .ok (.aload_n 0, 1) := by decide +kernel
theorem dL_law_627 : decode cL_law 627 = .ok (.iload_n 3, 1) := by decide +kernel
theorem dL_law_628 : decode cL_law 628 = .ok (.iconst 1, 1) := by decide +kernel
theorem dL_law_629 : decode cL_law 629 = .ok (.iadd, 1) := by decide +kernel
theorem dL_law_630 : decode cL_law 630 = .ok (.iaload, 1) := by decide +kernel
theorem dL_law_631 : decode cL_law 631 = .ok (.aload_n 0, 1) := by decide +kernel
theorem dL_law_632 : decode cL_law 632 = .ok (.iload_n 3, 1) := by decide +kernel
theorem dL_law_633 : decode cL_law 633 = .ok (.iconst 2, 1) := by decide +kernel
theorem dL_law_634 : decode cL_law 634 = .ok (.iadd, 1) := by decide +kernel
theorem dL_law_635 : decode cL_law 635 = .ok (.iaload, 1) := by decide +kernel
theorem dL_law_636 : decode cL_law 636 = .ok (.aload_n 0, 1) := by decide +kernel
theorem dL_law_637 : decode cL_law 637 = .ok (.iload_n 3, 1) := by decide +kernel
theorem dL_law_638 : decode cL_law 638 = .ok (.iconst 3, 1) := by decide +kernel
theorem dL_law_639 : decode cL_law 639 = .ok (.iadd, 1) := by decide +kernel
theorem dL_law_640 : decode cL_law 640 = .ok (.iaload, 1) := by decide +kernel
theorem dL_law_641 : decode cL_law 641 = .ok (.invokevirtual 87, 3) := by decide +kernel
theorem dL_law_644 : decode cL_law 644 = .ok (.aload_n 2, 1) := by decide +kernel
theorem dL_law_645 : decode cL_law 645 = .ok (.aload_n 0, 1) := by decide +kernel
theorem dL_law_646 : decode cL_law 646 = .ok (.iload_n 3, 1) := by decide +kernel
theorem dL_law_647 : decode cL_law 647 = .ok (.iconst 1, 1) := by decide +kernel
theorem dL_law_648 : decode cL_law 648 = .ok (.iadd, 1) := by decide +kernel
theorem dL_law_649 : decode cL_law 649 = .ok (.iaload, 1) := by decide +kernel
theorem dL_law_650 : decode cL_law 650 = .ok (.aload_n 0, 1) := by decide +kernel
theorem dL_law_651 : decode cL_law 651 = .ok (.iload_n 3, 1) := by decide +kernel
theorem dL_law_652 : decode cL_law 652 = .ok (.iconst 2, 1) := by decide +kernel
theorem dL_law_653 : decode cL_law 653 = .ok (.iadd, 1) := by decide +kernel
theorem dL_law_654 : decode cL_law 654 = .ok (.iaload, 1) := by decide +kernel
theorem dL_law_655 : decode cL_law 655 = .ok (.aload_n 0, 1) := by decide +kernel
theorem dL_law_656 : decode cL_law 656 = .ok (.iload_n 3, 1) := by decide +kernel
theorem dL_law_657 : decode cL_law 657 = .ok (.iconst 3, 1) := by decide +kernel
theorem dL_law_658 : decode cL_law 658 = .ok (.iadd, 1) := by decide +kernel
theorem dL_law_659 : decode cL_law 659 = .ok (.iaload, 1) := by decide +kernel
theorem dL_law_660 : decode cL_law 660 = .ok (.invokevirtual 90, 3) := by decide +kernel
theorem dL_law_663 : decode cL_law 663 = .ok (.if_icmp .eq 195, 3) := by decide +kernel
theorem dL_law_666 : decode cL_law 666 = .ok (.iconst 0, 1) := by decide +kernel
theorem dL_law_667 : decode cL_law 667 = .ok (.ireturn, 1) := by decide +kernel
theorem dL_law_668 : decode cL_law 668 = .ok (.aload_n 1, 1) := by decide +kernel
theorem dL_law_669 : decode cL_law 669 = .ok (.aload_n 0, 1) := by decide +kernel
theorem dL_law_670 : decode cL_law 670 = .ok (.iload_n 3, 1) := by decide +kernel
theorem dL_law_671 : decode cL_law 671 = .ok (.iconst 1, 1) := by decide +kernel
theorem dL_law_672 : decode cL_law 672 = .ok (.iadd, 1) := by decide +kernel
theorem dL_law_673 : decode cL_law 673 = .ok (.iaload, 1) := by decide +kernel
theorem dL_law_674 : decode cL_law 674 = .ok (.aload_n 0, 1) := by decide +kernel
theorem dL_law_675 : decode cL_law 675 = .ok (.iload_n 3, 1) := by decide +kernel
theorem dL_law_676 : decode cL_law 676 = .ok (.iconst 2, 1) := by decide +kernel
theorem dL_law_677 : decode cL_law 677 = .ok (.iadd, 1) := by decide +kernel
theorem dL_law_678 : decode cL_law 678 = .ok (.iaload, 1) := by decide +kernel
theorem dL_law_679 : decode cL_law 679 = .ok (.invokevirtual 91, 3) := by decide +kernel
theorem dL_law_682 : decode cL_law 682 = .ok (.aload_n 2, 1) := by decide +kernel
theorem dL_law_683 : decode cL_law 683 = .ok (.aload_n 0, 1) := by decide +kernel
theorem dL_law_684 : decode cL_law 684 = .ok (.iload_n 3, 1) := by decide +kernel
theorem dL_law_685 : decode cL_law 685 = .ok (.iconst 1, 1) := by decide +kernel
theorem dL_law_686 : decode cL_law 686 = .ok (.iadd, 1) := by decide +kernel
theorem dL_law_687 : decode cL_law 687 = .ok (.iaload, 1) := by decide +kernel
theorem dL_law_688 : decode cL_law 688 = .ok (.aload_n 0, 1) := by decide +kernel
theorem dL_law_689 : decode cL_law 689 = .ok (.iload_n 3, 1) := by decide +kernel
theorem dL_law_690 : decode cL_law 690 = .ok (.iconst 2, 1) := by decide +kernel
theorem dL_law_691 : decode cL_law 691 = .ok (.iadd, 1) := by decide +kernel
theorem dL_law_692 : decode cL_law 692 = .ok (.iaload, 1) := by decide +kernel
theorem dL_law_693 : decode cL_law 693 = .ok (.invokevirtual 94, 3) := by decide +kernel
theorem dL_law_696 : decode cL_law 696 = .ok (.if_icmp .eq 162, 3) := by decide +kernel
theorem dL_law_699 : decode cL_law 699 = .ok (.iconst 0, 1) := by decide +kernel
theorem dL_law_700 : decode cL_law 700 = .ok (.ireturn, 1) := by decide +kernel
theorem dL_law_701 : decode cL_law 701 = .ok (.aload_n 1, 1) := by decide +kernel
theorem dL_law_702 : decode cL_law 702 = .ok (.aload_n 0, 1) := by decide +kernel
theorem dL_law_703 : decode cL_law 703 = .ok (.iload_n 3, 1) := by decide +kernel
theorem dL_law_704 : decode cL_law 704 = .ok (.iconst 1, 1) := by decide +kernel
theorem dL_law_705 : decode cL_law 705 = .ok (.iadd, 1) := by decide +kernel
theorem dL_law_706 : decode cL_law 706 = .ok (.iaload, 1) := by decide +kernel
theorem dL_law_707 : decode cL_law 707 = .ok (.invokevirtual 95, 3) := by decide +kernel
theorem dL_law_710 : decode cL_law 710 = .ok (.aload_n 2, 1) := by decide +kernel
theorem dL_law_711 : decode cL_law 711 = .ok (.aload_n 0, 1) := by decide +kernel
theorem dL_law_712 : decode cL_law 712 = .ok (.iload_n 3, 1) := by decide +kernel
theorem dL_law_713 : decode cL_law 713 = .ok (.iconst 1, 1) := by decide +kernel
theorem dL_law_714 : decode cL_law 714 = .ok (.iadd, 1) := by decide +kernel
theorem dL_law_715 : decode cL_law 715 = .ok (.iaload, 1) := by decide +kernel
theorem dL_law_716 : decode cL_law 716 = .ok (.invokevirtual 98, 3) := by decide +kernel
theorem dL_law_719 : decode cL_law 719 = .ok (.if_icmp .eq 139, 3) := by decide +kernel
theorem dL_law_722 : decode cL_law 722 = .ok (.iconst 0, 1) := by decide +kernel
theorem dL_law_723 : decode cL_law 723 = .ok (.ireturn, 1) := by decide +kernel
theorem dL_law_724 : decode cL_law 724 = .ok (.aload_n 1, 1) := by decide +kernel
theorem dL_law_725 : decode cL_law 725 = .ok (.aload_n 0, 1) := by decide +kernel
theorem dL_law_726 : decode cL_law 726 = .ok (.iload_n 3, 1) := by decide +kernel
theorem dL_law_727 : decode cL_law 727 = .ok (.iconst 1, 1) := by decide +kernel
theorem dL_law_728 : decode cL_law 728 = .ok (.iadd, 1) := by decide +kernel
theorem dL_law_729 : decode cL_law 729 = .ok (.iaload, 1) := by decide +kernel
theorem dL_law_730 : decode cL_law 730 = .ok (.invokevirtual 99, 3) := by decide +kernel
theorem dL_law_733 : decode cL_law 733 = .ok (.aload_n 2, 1) := by decide +kernel
theorem dL_law_734 : decode cL_law 734 = .ok (.aload_n 0, 1) := by decide +kernel
theorem dL_law_735 : decode cL_law 735 = .ok (.iload_n 3, 1) := by decide +kernel
theorem dL_law_736 : decode cL_law 736 = .ok (.iconst 1, 1) := by decide +kernel
theorem dL_law_737 : decode cL_law 737 = .ok (.iadd, 1) := by decide +kernel
theorem dL_law_738 : decode cL_law 738 = .ok (.iaload, 1) := by decide +kernel
theorem dL_law_739 : decode cL_law 739 = .ok (.invokevirtual 102, 3) := by decide +kernel
theorem dL_law_742 : decode cL_law 742 = .ok (.lcmp, 1) := by decide +kernel
theorem dL_law_743 : decode cL_law 743 = .ok (.ifCond .eq 115, 3) := by decide +kernel
theorem dL_law_746 : decode cL_law 746 = .ok (.iconst 0, 1) := by decide +kernel
theorem dL_law_747 : decode cL_law 747 = .ok (.ireturn, 1) := by decide +kernel
theorem dL_law_748 : decode cL_law 748 = .ok (.aload_n 1, 1) := by decide +kernel
theorem dL_law_749 : decode cL_law 749 = .ok (.aload_n 0, 1) := by decide +kernel
theorem dL_law_750 : decode cL_law 750 = .ok (.iload_n 3, 1) := by decide +kernel
theorem dL_law_751 : decode cL_law 751 = .ok (.iconst 1, 1) := by decide +kernel
theorem dL_law_752 : decode cL_law 752 = .ok (.iadd, 1) := by decide +kernel
theorem dL_law_753 : decode cL_law 753 = .ok (.iaload, 1) := by decide +kernel
theorem dL_law_754 : decode cL_law 754 = .ok (.invokevirtual 103, 3) := by decide +kernel
theorem dL_law_757 : decode cL_law 757 = .ok (.aload_n 2, 1) := by decide +kernel
theorem dL_law_758 : decode cL_law 758 = .ok (.aload_n 0, 1) := by decide +kernel
theorem dL_law_759 : decode cL_law 759 = .ok (.iload_n 3, 1) := by decide +kernel
theorem dL_law_760 : decode cL_law 760 = .ok (.iconst 1, 1) := by decide +kernel
theorem dL_law_761 : decode cL_law 761 = .ok (.iadd, 1) := by decide +kernel
theorem dL_law_762 : decode cL_law 762 = .ok (.iaload, 1) := by decide +kernel
theorem dL_law_763 : decode cL_law 763 = .ok (.invokevirtual 106, 3) := by decide +kernel
theorem dL_law_766 : decode cL_law 766 = .ok (.lcmp, 1) := by decide +kernel
theorem dL_law_767 : decode cL_law 767 = .ok (.ifCond .eq 91, 3) := by decide +kernel
theorem dL_law_770 : decode cL_law 770 = .ok (.iconst 0, 1) := by decide +kernel
theorem dL_law_771 : decode cL_law 771 = .ok (.ireturn, 1) := by decide +kernel
theorem dL_law_772 : decode cL_law 772 = .ok (.aload_n 1, 1) := by decide +kernel
theorem dL_law_773 : decode cL_law 773 = .ok (.aload_n 0, 1) := by decide +kernel
theorem dL_law_774 : decode cL_law 774 = .ok (.iload_n 3, 1) := by decide +kernel
theorem dL_law_775 : decode cL_law 775 = .ok (.iconst 1, 1) := by decide +kernel
theorem dL_law_776 : decode cL_law 776 = .ok (.iadd, 1) := by decide +kernel
theorem dL_law_777 : decode cL_law 777 = .ok (.iaload, 1) := by decide +kernel
theorem dL_law_778 : decode cL_law 778 = .ok (.aload_n 0, 1) := by decide +kernel
theorem dL_law_779 : decode cL_law 779 = .ok (.iload_n 3, 1) := by decide +kernel
theorem dL_law_780 : decode cL_law 780 = .ok (.iconst 2, 1) := by decide +kernel
theorem dL_law_781 : decode cL_law 781 = .ok (.iadd, 1) := by decide +kernel
theorem dL_law_782 : decode cL_law 782 = .ok (.iaload, 1) := by decide +kernel
theorem dL_law_783 : decode cL_law 783 = .ok (.i2l, 1) := by decide +kernel
theorem dL_law_784 : decode cL_law 784 = .ok (.bipush 32, 2) := by decide +kernel
theorem dL_law_786 : decode cL_law 786 = .ok (.lshl, 1) := by decide +kernel
theorem dL_law_787 : decode cL_law 787 = .ok (.aload_n 0, 1) := by decide +kernel
theorem dL_law_788 : decode cL_law 788 = .ok (.iload_n 3, 1) := by decide +kernel
theorem dL_law_789 : decode cL_law 789 = .ok (.iconst 3, 1) := by decide +kernel
theorem dL_law_790 : decode cL_law 790 = .ok (.iadd, 1) := by decide +kernel
theorem dL_law_791 : decode cL_law 791 = .ok (.iaload, 1) := by decide +kernel
theorem dL_law_792 : decode cL_law 792 = .ok (.i2l, 1) := by decide +kernel
theorem dL_law_793 : decode cL_law 793 = .ok (.ldc2_w 107, 3) := by decide +kernel
theorem dL_law_796 : decode cL_law 796 = .ok (.land, 1) := by decide +kernel
theorem dL_law_797 : decode cL_law 797 = .ok (.lor, 1) := by decide +kernel
theorem dL_law_798 : decode cL_law 798 = .ok (.invokevirtual 109, 3) := by decide +kernel
theorem dL_law_801 : decode cL_law 801 = .ok (.aload_n 2, 1) := by decide +kernel
theorem dL_law_802 : decode cL_law 802 = .ok (.aload_n 0, 1) := by decide +kernel
theorem dL_law_803 : decode cL_law 803 = .ok (.iload_n 3, 1) := by decide +kernel
theorem dL_law_804 : decode cL_law 804 = .ok (.iconst 1, 1) := by decide +kernel
theorem dL_law_805 : decode cL_law 805 = .ok (.iadd, 1) := by decide +kernel
theorem dL_law_806 : decode cL_law 806 = .ok (.iaload, 1) := by decide +kernel
theorem dL_law_807 : decode cL_law 807 = .ok (.aload_n 0, 1) := by decide +kernel
theorem dL_law_808 : decode cL_law 808 = .ok (.iload_n 3, 1) := by decide +kernel
theorem dL_law_809 : decode cL_law 809 = .ok (.iconst 2, 1) := by decide +kernel
theorem dL_law_810 : decode cL_law 810 = .ok (.iadd, 1) := by decide +kernel
theorem dL_law_811 : decode cL_law 811 = .ok (.iaload, 1) := by decide +kernel
theorem dL_law_812 : decode cL_law 812 = .ok (.i2l, 1) := by decide +kernel
theorem dL_law_813 : decode cL_law 813 = .ok (.bipush 32, 2) := by decide +kernel
theorem dL_law_815 : decode cL_law 815 = .ok (.lshl, 1) := by decide +kernel
theorem dL_law_816 : decode cL_law 816 = .ok (.aload_n 0, 1) := by decide +kernel
theorem dL_law_817 : decode cL_law 817 = .ok (.iload_n 3, 1) := by decide +kernel
theorem dL_law_818 : decode cL_law 818 = .ok (.iconst 3, 1) := by decide +kernel
theorem dL_law_819 : decode cL_law 819 = .ok (.iadd, 1) := by decide +kernel
theorem dL_law_820 : decode cL_law 820 = .ok (.iaload, 1) := by decide +kernel
theorem dL_law_821 : decode cL_law 821 = .ok (.i2l, 1) := by decide +kernel
theorem dL_law_822 : decode cL_law 822 = .ok (.ldc2_w 107, 3) := by decide +kernel
theorem dL_law_825 : decode cL_law 825 = .ok (.land, 1) := by decide +kernel
theorem dL_law_826 : decode cL_law 826 = .ok (.lor, 1) := by decide +kernel
theorem dL_law_827 : decode cL_law 827 = .ok (.invokevirtual 113, 3) := by decide +kernel
theorem dL_law_830 : decode cL_law 830 = .ok (.if_icmp .eq 28, 3) := by decide +kernel
theorem dL_law_833 : decode cL_law 833 = .ok (.iconst 0, 1) := by decide +kernel
theorem dL_law_834 : decode cL_law 834 = .ok (.ireturn, 1) := by decide +kernel
theorem dL_law_835 : decode cL_law 835 = .ok (.aload_n 1, 1) := by decide +kernel
theorem dL_law_836 : decode cL_law 836 = .ok (.aload_n 0, 1) := by decide +kernel
theorem dL_law_837 : decode cL_law 837 = .ok (.iload_n 3, 1) := by decide +kernel
theorem dL_law_838 : decode cL_law 838 = .ok (.iconst 1, 1) := by decide +kernel
theorem dL_law_839 : decode cL_law 839 = .ok (.iadd, 1) := by decide +kernel
theorem dL_law_840 : decode cL_law 840 = .ok (.iaload, 1) := by decide +kernel
theorem dL_law_841 : decode cL_law 841 = .ok (.invokevirtual 114, 3) := by decide +kernel
theorem dL_law_844 : decode cL_law 844 = .ok (.aload_n 2, 1) := by decide +kernel
theorem dL_law_845 : decode cL_law 845 = .ok (.aload_n 0, 1) := by decide +kernel
theorem dL_law_846 : decode cL_law 846 = .ok (.iload_n 3, 1) := by decide +kernel
theorem dL_law_847 : decode cL_law 847 = .ok (.iconst 1, 1) := by decide +kernel
theorem dL_law_848 : decode cL_law 848 = .ok (.iadd, 1) := by decide +kernel
theorem dL_law_849 : decode cL_law 849 = .ok (.iaload, 1) := by decide +kernel
theorem dL_law_850 : decode cL_law 850 = .ok (.invokevirtual 117, 3) := by decide +kernel
theorem dL_law_853 : decode cL_law 853 = .ok (.if_icmp .eq 5, 3) := by decide +kernel
theorem dL_law_856 : decode cL_law 856 = .ok (.iconst 0, 1) := by decide +kernel
theorem dL_law_857 : decode cL_law 857 = .ok (.ireturn, 1) := by decide +kernel
theorem dL_law_858 : decode cL_law 858 = .ok (.iinc 3 8, 3) := by decide +kernel
theorem dL_law_861 : decode cL_law 861 = .ok (.goto (-833), 3) := by decide +kernel
theorem dL_law_864 : decode cL_law 864 = .ok (.iconst 1, 1) := by decide +kernel
theorem dL_law_865 : decode cL_law 865 = .ok (.ireturn, 1) := by decide +kernel
end
section
def om_tb : List Cond := lw_tbl.filter goodWord
theorem om_mem (i : Nat) {w : Cond} (h : lw_tbl[i]? = some w) (hg : goodWord w = true) : w ∈ om_tb := List.mem_filter.mpr ⟨List.mem_of_getElem? h, hg⟩
theorem om_tb_in : ∀ w ∈ om_tb, w ∈ lw_tbl := fun _ h => (List.mem_filter.mp h).1
theorem om_tb_good : ∀ w ∈ om_tb, goodWord w = true := fun _ h => (List.mem_filter.mp h).2
theorem om_places {ws : List Cond} (ps : List Nat) (hp : ws = ps.filterMap (fun i => lw_tbl[i]?)) (hg : ws.all goodWord = true) : ∀ w ∈ ws, w ∈ om_tb := by
  intro w hw
  refine List.mem_filter.mpr ⟨?_, List.all_eq_true.mp hg w hw⟩
  rw [hp] at hw
  obtain ⟨i, -, hi⟩ := List.mem_filterMap.mp hw
  exact List.mem_of_getElem? hi
theorem inX0 : ∀ w ∈ wsX00, w ∈ om_tb := om_places [288, 290, 292, 294, 296, 298, 300, 302, 304, 306, 308, 310, 312, 314, 316] (by decide +kernel) (by decide +kernel)
theorem inX1 : ∀ w ∈ wsX10, w ∈ om_tb := om_places [148, 150, 152, 154, 156, 158] (by decide +kernel) (by decide +kernel)
theorem inX2 : ∀ w ∈ wsX20, w ∈ om_tb := om_places [95, 97, 99, 101, 103, 105] (by decide +kernel) (by decide +kernel)
theorem inX3 : ∀ w ∈ wsX30, w ∈ om_tb := om_places [182, 184, 186, 188, 190, 192] (by decide +kernel) (by decide +kernel)
theorem inX4 : ∀ w ∈ wsX40, w ∈ om_tb := om_places [115, 117, 119, 121, 123] (by decide +kernel) (by decide +kernel)
theorem inX5 : ∀ w ∈ wsX50, w ∈ om_tb := om_places [199, 201] (by decide +kernel) (by decide +kernel)
theorem inX6 : ∀ w ∈ wsX60, w ∈ om_tb := om_places [211, 213, 215, 217, 219, 221, 223] (by decide +kernel) (by decide +kernel)
theorem inX7 : ∀ w ∈ wsX70, w ∈ om_tb := om_places [659, 661, 663, 665, 667, 669, 671, 673, 675, 677, 679, 681, 683, 685, 687, 689, 691, 693, 695, 697, 699, 701, 703, 705, 707, 709, 711, 713, 715, 717, 719, 721, 723, 725, 727, 729, 731, 733, 735, 737] (by decide +kernel) (by decide +kernel)
def om_FL (own : String) (idx ci f : Nat) : Prop := ∃ (C : String) (T : u_T) (N : Nat), vwCl[ci]? = some (C, T, N) ∧ (∀ w ∈ u_ws C T N, w ∈ om_tb) ∧ f < N ∧ Cond.fieldLink own idx (T f).1 (T f).2.1 (T f).2.2.1 ∈ om_tb
theorem fl_X2_7 : om_FL RX2 7 2 0 := ⟨_, _, _, rfl, inX2, by decide, om_mem 83 (by decide +kernel) rfl⟩
theorem fl_X6_167 : om_FL RX6 167 2 0 := ⟨_, _, _, rfl, inX2, by decide, om_mem 84 (by decide +kernel) rfl⟩
theorem fl_X2_13 : om_FL RX2 13 2 1 := ⟨_, _, _, rfl, inX2, by decide, om_mem 85 (by decide +kernel) rfl⟩
theorem fl_X6_170 : om_FL RX6 170 2 1 := ⟨_, _, _, rfl, inX2, by decide, om_mem 86 (by decide +kernel) rfl⟩
theorem fl_X2_17 : om_FL RX2 17 2 2 := ⟨_, _, _, rfl, inX2, by decide, om_mem 87 (by decide +kernel) rfl⟩
theorem fl_X6_176 : om_FL RX6 176 2 2 := ⟨_, _, _, rfl, inX2, by decide, om_mem 88 (by decide +kernel) rfl⟩
theorem fl_X2_20 : om_FL RX2 20 2 3 := ⟨_, _, _, rfl, inX2, by decide, om_mem 89 (by decide +kernel) rfl⟩
theorem fl_X6_164 : om_FL RX6 164 2 3 := ⟨_, _, _, rfl, inX2, by decide, om_mem 90 (by decide +kernel) rfl⟩
theorem fl_X2_23 : om_FL RX2 23 2 4 := ⟨_, _, _, rfl, inX2, by decide, om_mem 91 (by decide +kernel) rfl⟩
theorem fl_X6_173 : om_FL RX6 173 2 4 := ⟨_, _, _, rfl, inX2, by decide, om_mem 92 (by decide +kernel) rfl⟩
theorem fl_X2_27 : om_FL RX2 27 2 5 := ⟨_, _, _, rfl, inX2, by decide, om_mem 93 (by decide +kernel) rfl⟩
theorem fl_X6_289 : om_FL RX6 289 2 5 := ⟨_, _, _, rfl, inX2, by decide, om_mem 94 (by decide +kernel) rfl⟩
theorem fl_X4_18 : om_FL RX4 18 4 0 := ⟨_, _, _, rfl, inX4, by decide, om_mem 108 (by decide +kernel) rfl⟩
theorem fl_X6_99 : om_FL RX6 99 4 0 := ⟨_, _, _, rfl, inX4, by decide, om_mem 109 (by decide +kernel) rfl⟩
theorem fl_X6_235 : om_FL RX6 235 4 1 := ⟨_, _, _, rfl, inX4, by decide, om_mem 110 (by decide +kernel) rfl⟩
theorem fl_X4_30 : om_FL RX4 30 4 2 := ⟨_, _, _, rfl, inX4, by decide, om_mem 111 (by decide +kernel) rfl⟩
theorem fl_X6_151 : om_FL RX6 151 4 2 := ⟨_, _, _, rfl, inX4, by decide, om_mem 112 (by decide +kernel) rfl⟩
theorem fl_X4_37 : om_FL RX4 37 4 3 := ⟨_, _, _, rfl, inX4, by decide, om_mem 113 (by decide +kernel) rfl⟩
theorem fl_X4_11 : om_FL RX4 11 4 4 := ⟨_, _, _, rfl, inX4, by decide, om_mem 114 (by decide +kernel) rfl⟩
theorem fl_X1_31 : om_FL RX1 31 1 0 := ⟨_, _, _, rfl, inX1, by decide, om_mem 138 (by decide +kernel) rfl⟩
theorem fl_X6_183 : om_FL RX6 183 1 0 := ⟨_, _, _, rfl, inX1, by decide, om_mem 139 (by decide +kernel) rfl⟩
theorem fl_X1_9 : om_FL RX1 9 1 1 := ⟨_, _, _, rfl, inX1, by decide, om_mem 140 (by decide +kernel) rfl⟩
theorem fl_X6_68 : om_FL RX6 68 1 1 := ⟨_, _, _, rfl, inX1, by decide, om_mem 141 (by decide +kernel) rfl⟩
theorem fl_X1_15 : om_FL RX1 15 1 2 := ⟨_, _, _, rfl, inX1, by decide, om_mem 142 (by decide +kernel) rfl⟩
theorem fl_X6_137 : om_FL RX6 137 1 2 := ⟨_, _, _, rfl, inX1, by decide, om_mem 143 (by decide +kernel) rfl⟩
theorem fl_X1_19 : om_FL RX1 19 1 3 := ⟨_, _, _, rfl, inX1, by decide, om_mem 144 (by decide +kernel) rfl⟩
theorem fl_X6_138 : om_FL RX6 138 1 3 := ⟨_, _, _, rfl, inX1, by decide, om_mem 145 (by decide +kernel) rfl⟩
theorem fl_X1_22 : om_FL RX1 22 1 4 := ⟨_, _, _, rfl, inX1, by decide, om_mem 146 (by decide +kernel) rfl⟩
theorem fl_X1_27 : om_FL RX1 27 1 5 := ⟨_, _, _, rfl, inX1, by decide, om_mem 147 (by decide +kernel) rfl⟩
theorem fl_X3_23 : om_FL RX3 23 3 0 := ⟨_, _, _, rfl, inX3, by decide, om_mem 173 (by decide +kernel) rfl⟩
theorem fl_X3_43 : om_FL RX3 43 3 1 := ⟨_, _, _, rfl, inX3, by decide, om_mem 174 (by decide +kernel) rfl⟩
theorem fl_X6_195 : om_FL RX6 195 3 1 := ⟨_, _, _, rfl, inX3, by decide, om_mem 175 (by decide +kernel) rfl⟩
theorem fl_X3_9 : om_FL RX3 9 3 2 := ⟨_, _, _, rfl, inX3, by decide, om_mem 176 (by decide +kernel) rfl⟩
theorem fl_X6_198 : om_FL RX6 198 3 2 := ⟨_, _, _, rfl, inX3, by decide, om_mem 177 (by decide +kernel) rfl⟩
theorem fl_X3_30 : om_FL RX3 30 3 3 := ⟨_, _, _, rfl, inX3, by decide, om_mem 178 (by decide +kernel) rfl⟩
theorem fl_X6_201 : om_FL RX6 201 3 3 := ⟨_, _, _, rfl, inX3, by decide, om_mem 179 (by decide +kernel) rfl⟩
theorem fl_X3_15 : om_FL RX3 15 3 4 := ⟨_, _, _, rfl, inX3, by decide, om_mem 180 (by decide +kernel) rfl⟩
theorem fl_X3_19 : om_FL RX3 19 3 5 := ⟨_, _, _, rfl, inX3, by decide, om_mem 181 (by decide +kernel) rfl⟩
theorem fl_X5_9 : om_FL RX5 9 5 0 := ⟨_, _, _, rfl, inX5, by decide, om_mem 197 (by decide +kernel) rfl⟩
theorem fl_X5_17 : om_FL RX5 17 5 1 := ⟨_, _, _, rfl, inX5, by decide, om_mem 198 (by decide +kernel) rfl⟩
theorem fl_X6_43 : om_FL RX6 43 6 0 := ⟨_, _, _, rfl, inX6, by decide, om_mem 204 (by decide +kernel) rfl⟩
theorem fl_X6_11 : om_FL RX6 11 6 1 := ⟨_, _, _, rfl, inX6, by decide, om_mem 205 (by decide +kernel) rfl⟩
theorem fl_X6_17 : om_FL RX6 17 6 2 := ⟨_, _, _, rfl, inX6, by decide, om_mem 206 (by decide +kernel) rfl⟩
theorem fl_X6_23 : om_FL RX6 23 6 3 := ⟨_, _, _, rfl, inX6, by decide, om_mem 207 (by decide +kernel) rfl⟩
theorem fl_X6_30 : om_FL RX6 30 6 4 := ⟨_, _, _, rfl, inX6, by decide, om_mem 208 (by decide +kernel) rfl⟩
theorem fl_X6_229 : om_FL RX6 229 6 5 := ⟨_, _, _, rfl, inX6, by decide, om_mem 209 (by decide +kernel) rfl⟩
theorem fl_X6_238 : om_FL RX6 238 6 6 := ⟨_, _, _, rfl, inX6, by decide, om_mem 210 (by decide +kernel) rfl⟩
theorem fl_X0_15 : om_FL RX0 15 0 0 := ⟨_, _, _, rfl, inX0, by decide, om_mem 264 (by decide +kernel) rfl⟩
theorem fl_X6_82 : om_FL RX6 82 0 0 := ⟨_, _, _, rfl, inX0, by decide, om_mem 265 (by decide +kernel) rfl⟩
theorem fl_X0_18 : om_FL RX0 18 0 1 := ⟨_, _, _, rfl, inX0, by decide, om_mem 266 (by decide +kernel) rfl⟩
theorem fl_X6_89 : om_FL RX6 89 0 1 := ⟨_, _, _, rfl, inX0, by decide, om_mem 267 (by decide +kernel) rfl⟩
theorem fl_X0_21 : om_FL RX0 21 0 2 := ⟨_, _, _, rfl, inX0, by decide, om_mem 268 (by decide +kernel) rfl⟩
theorem fl_X6_102 : om_FL RX6 102 0 2 := ⟨_, _, _, rfl, inX0, by decide, om_mem 269 (by decide +kernel) rfl⟩
theorem fl_X0_24 : om_FL RX0 24 0 3 := ⟨_, _, _, rfl, inX0, by decide, om_mem 270 (by decide +kernel) rfl⟩
theorem fl_X6_105 : om_FL RX6 105 0 3 := ⟨_, _, _, rfl, inX0, by decide, om_mem 271 (by decide +kernel) rfl⟩
theorem fl_X0_35 : om_FL RX0 35 0 4 := ⟨_, _, _, rfl, inX0, by decide, om_mem 272 (by decide +kernel) rfl⟩
theorem fl_X6_108 : om_FL RX6 108 0 4 := ⟨_, _, _, rfl, inX0, by decide, om_mem 273 (by decide +kernel) rfl⟩
theorem fl_X0_38 : om_FL RX0 38 0 5 := ⟨_, _, _, rfl, inX0, by decide, om_mem 274 (by decide +kernel) rfl⟩
theorem fl_X6_111 : om_FL RX6 111 0 5 := ⟨_, _, _, rfl, inX0, by decide, om_mem 275 (by decide +kernel) rfl⟩
theorem fl_X6_252 : om_FL RX6 252 0 6 := ⟨_, _, _, rfl, inX0, by decide, om_mem 276 (by decide +kernel) rfl⟩
theorem fl_X6_255 : om_FL RX6 255 0 7 := ⟨_, _, _, rfl, inX0, by decide, om_mem 277 (by decide +kernel) rfl⟩
theorem fl_X6_258 : om_FL RX6 258 0 8 := ⟨_, _, _, rfl, inX0, by decide, om_mem 278 (by decide +kernel) rfl⟩
theorem fl_X6_261 : om_FL RX6 261 0 9 := ⟨_, _, _, rfl, inX0, by decide, om_mem 279 (by decide +kernel) rfl⟩
theorem fl_X0_9 : om_FL RX0 9 0 10 := ⟨_, _, _, rfl, inX0, by decide, om_mem 280 (by decide +kernel) rfl⟩
theorem fl_X6_92 : om_FL RX6 92 0 10 := ⟨_, _, _, rfl, inX0, by decide, om_mem 281 (by decide +kernel) rfl⟩
theorem fl_X1_38 : om_FL RX1 38 0 10 := ⟨_, _, _, rfl, inX0, by decide, om_mem 282 (by decide +kernel) rfl⟩
theorem fl_X0_27 : om_FL RX0 27 0 11 := ⟨_, _, _, rfl, inX0, by decide, om_mem 283 (by decide +kernel) rfl⟩
theorem fl_X6_127 : om_FL RX6 127 0 11 := ⟨_, _, _, rfl, inX0, by decide, om_mem 284 (by decide +kernel) rfl⟩
theorem fl_X6_213 : om_FL RX6 213 0 12 := ⟨_, _, _, rfl, inX0, by decide, om_mem 285 (by decide +kernel) rfl⟩
theorem fl_X6_114 : om_FL RX6 114 0 13 := ⟨_, _, _, rfl, inX0, by decide, om_mem 286 (by decide +kernel) rfl⟩
theorem fl_X6_122 : om_FL RX6 122 0 14 := ⟨_, _, _, rfl, inX0, by decide, om_mem 287 (by decide +kernel) rfl⟩
theorem fl_X7_102 : om_FL RX7 102 7 0 := ⟨_, _, _, rfl, inX7, by decide, om_mem 619 (by decide +kernel) rfl⟩
theorem fl_X7_7 : om_FL RX7 7 7 1 := ⟨_, _, _, rfl, inX7, by decide, om_mem 620 (by decide +kernel) rfl⟩
theorem fl_X7_13 : om_FL RX7 13 7 2 := ⟨_, _, _, rfl, inX7, by decide, om_mem 621 (by decide +kernel) rfl⟩
theorem fl_X7_17 : om_FL RX7 17 7 3 := ⟨_, _, _, rfl, inX7, by decide, om_mem 622 (by decide +kernel) rfl⟩
theorem fl_X7_20 : om_FL RX7 20 7 4 := ⟨_, _, _, rfl, inX7, by decide, om_mem 623 (by decide +kernel) rfl⟩
theorem fl_X7_106 : om_FL RX7 106 7 5 := ⟨_, _, _, rfl, inX7, by decide, om_mem 624 (by decide +kernel) rfl⟩
theorem fl_X7_24 : om_FL RX7 24 7 6 := ⟨_, _, _, rfl, inX7, by decide, om_mem 625 (by decide +kernel) rfl⟩
theorem fl_X7_27 : om_FL RX7 27 7 7 := ⟨_, _, _, rfl, inX7, by decide, om_mem 626 (by decide +kernel) rfl⟩
theorem fl_X7_30 : om_FL RX7 30 7 8 := ⟨_, _, _, rfl, inX7, by decide, om_mem 627 (by decide +kernel) rfl⟩
theorem fl_X7_33 : om_FL RX7 33 7 9 := ⟨_, _, _, rfl, inX7, by decide, om_mem 628 (by decide +kernel) rfl⟩
theorem fl_X7_36 : om_FL RX7 36 7 10 := ⟨_, _, _, rfl, inX7, by decide, om_mem 629 (by decide +kernel) rfl⟩
theorem fl_X7_39 : om_FL RX7 39 7 11 := ⟨_, _, _, rfl, inX7, by decide, om_mem 630 (by decide +kernel) rfl⟩
theorem fl_X7_42 : om_FL RX7 42 7 12 := ⟨_, _, _, rfl, inX7, by decide, om_mem 631 (by decide +kernel) rfl⟩
theorem fl_X7_45 : om_FL RX7 45 7 13 := ⟨_, _, _, rfl, inX7, by decide, om_mem 632 (by decide +kernel) rfl⟩
theorem fl_X7_48 : om_FL RX7 48 7 14 := ⟨_, _, _, rfl, inX7, by decide, om_mem 633 (by decide +kernel) rfl⟩
theorem fl_X7_51 : om_FL RX7 51 7 15 := ⟨_, _, _, rfl, inX7, by decide, om_mem 634 (by decide +kernel) rfl⟩
theorem fl_X7_54 : om_FL RX7 54 7 16 := ⟨_, _, _, rfl, inX7, by decide, om_mem 635 (by decide +kernel) rfl⟩
theorem fl_X7_57 : om_FL RX7 57 7 17 := ⟨_, _, _, rfl, inX7, by decide, om_mem 636 (by decide +kernel) rfl⟩
theorem fl_X7_60 : om_FL RX7 60 7 18 := ⟨_, _, _, rfl, inX7, by decide, om_mem 637 (by decide +kernel) rfl⟩
theorem fl_X7_63 : om_FL RX7 63 7 19 := ⟨_, _, _, rfl, inX7, by decide, om_mem 638 (by decide +kernel) rfl⟩
theorem fl_X7_124 : om_FL RX7 124 7 20 := ⟨_, _, _, rfl, inX7, by decide, om_mem 639 (by decide +kernel) rfl⟩
theorem fl_X7_66 : om_FL RX7 66 7 21 := ⟨_, _, _, rfl, inX7, by decide, om_mem 640 (by decide +kernel) rfl⟩
theorem fl_X7_69 : om_FL RX7 69 7 22 := ⟨_, _, _, rfl, inX7, by decide, om_mem 641 (by decide +kernel) rfl⟩
theorem fl_X7_72 : om_FL RX7 72 7 23 := ⟨_, _, _, rfl, inX7, by decide, om_mem 642 (by decide +kernel) rfl⟩
theorem fl_X7_75 : om_FL RX7 75 7 24 := ⟨_, _, _, rfl, inX7, by decide, om_mem 643 (by decide +kernel) rfl⟩
theorem fl_X7_78 : om_FL RX7 78 7 25 := ⟨_, _, _, rfl, inX7, by decide, om_mem 644 (by decide +kernel) rfl⟩
theorem fl_X7_81 : om_FL RX7 81 7 26 := ⟨_, _, _, rfl, inX7, by decide, om_mem 645 (by decide +kernel) rfl⟩
theorem fl_X7_84 : om_FL RX7 84 7 27 := ⟨_, _, _, rfl, inX7, by decide, om_mem 646 (by decide +kernel) rfl⟩
theorem fl_X7_166 : om_FL RX7 166 7 28 := ⟨_, _, _, rfl, inX7, by decide, om_mem 647 (by decide +kernel) rfl⟩
theorem fl_X7_87 : om_FL RX7 87 7 29 := ⟨_, _, _, rfl, inX7, by decide, om_mem 648 (by decide +kernel) rfl⟩
theorem fl_X7_90 : om_FL RX7 90 7 30 := ⟨_, _, _, rfl, inX7, by decide, om_mem 649 (by decide +kernel) rfl⟩
theorem fl_X7_93 : om_FL RX7 93 7 31 := ⟨_, _, _, rfl, inX7, by decide, om_mem 650 (by decide +kernel) rfl⟩
theorem fl_X7_96 : om_FL RX7 96 7 32 := ⟨_, _, _, rfl, inX7, by decide, om_mem 651 (by decide +kernel) rfl⟩
theorem fl_X7_99 : om_FL RX7 99 7 33 := ⟨_, _, _, rfl, inX7, by decide, om_mem 652 (by decide +kernel) rfl⟩
theorem fl_X7_222 : om_FL RX7 222 7 34 := ⟨_, _, _, rfl, inX7, by decide, om_mem 653 (by decide +kernel) rfl⟩
theorem fl_X7_127 : om_FL RX7 127 7 35 := ⟨_, _, _, rfl, inX7, by decide, om_mem 654 (by decide +kernel) rfl⟩
theorem fl_X7_215 : om_FL RX7 215 7 36 := ⟨_, _, _, rfl, inX7, by decide, om_mem 655 (by decide +kernel) rfl⟩
theorem fl_X7_117 : om_FL RX7 117 7 37 := ⟨_, _, _, rfl, inX7, by decide, om_mem 656 (by decide +kernel) rfl⟩
theorem fl_X7_121 : om_FL RX7 121 7 38 := ⟨_, _, _, rfl, inX7, by decide, om_mem 657 (by decide +kernel) rfl⟩
theorem fl_X7_212 : om_FL RX7 212 7 39 := ⟨_, _, _, rfl, inX7, by decide, om_mem 658 (by decide +kernel) rfl⟩
theorem hcl0 : vwCl[0]? = some (RX0, TX0, 15) := rfl
theorem hcl1 : vwCl[1]? = some (RX1, TX1, 6) := rfl
theorem hcl2 : vwCl[2]? = some (RX2, TX2, 6) := rfl
theorem hcl3 : vwCl[3]? = some (RX3, TX3, 6) := rfl
theorem hcl4 : vwCl[4]? = some (RX4, TX4, 5) := rfl
theorem hcl5 : vwCl[5]? = some (RX5, TX5, 2) := rfl
theorem hcl6 : vwCl[6]? = some (RX6, TX6, 7) := rfl
theorem hcl7 : vwCl[7]? = some (RX7, TX7, 40) := rfl
abbrev om_k : Type := MethodName × ByteArray × Nat × Option FieldType
def om_B (k : om_k) (n : Nat) : Prop := Cond.code k.1 k.2.1 k.2.2.1 k.2.2.2 ∈ om_tb ∧ Cond.initialized k.1.cls ∈ om_tb ∧ k.1.cls ≠ "java/lang/invoke/MethodHandle" ∧ k.1.cls ≠ "java/lang/invoke/VarHandle" ∧ (parseMethodDescriptor k.1.desc).map (fun d => d.parameters.length) = some n ∧ plainName k.1.cls = true
def om_V (k : om_k) (n : Nat) : Prop := om_B k n ∧ Cond.instanceMethod k.1 ∈ om_tb ∧ Cond.selects k.1.cls k.1 k.1 ∈ om_tb
def om_Sx (k : om_k) (n : Nat) : Prop := om_B k n ∧ Cond.static k.1 ∈ om_tb
def om_Ix (k : om_k) (n : Nat) : Prop := om_B k n ∧ Cond.instanceMethod k.1 ∈ om_tb ∧ k.1.name = "<init>" ∧ k.2.2.2 = none
abbrev kX6_init : om_k := (yX6_init, cX6_init, 3, none)
theorem mkX6_init : om_Ix kX6_init 1 := ⟨⟨om_mem 60 (by decide +kernel) rfl, om_mem 47 (by decide +kernel) rfl, by decide +kernel, by decide +kernel, by decide +kernel, by decide +kernel⟩, om_mem 59 (by decide +kernel) rfl, rfl, rfl⟩
abbrev kX4_init : om_k := (yX4_init, cX4_init, 2, none)
theorem mkX4_init : om_Ix kX4_init 0 := ⟨⟨om_mem 74 (by decide +kernel) rfl, om_mem 48 (by decide +kernel) rfl, by decide +kernel, by decide +kernel, by decide +kernel, by decide +kernel⟩, om_mem 73 (by decide +kernel) rfl, rfl, rfl⟩
abbrev kX2_init : om_k := (yX2_init, cX2_init, 1, none)
theorem mkX2_init : om_Ix kX2_init 0 := ⟨⟨om_mem 81 (by decide +kernel) rfl, om_mem 49 (by decide +kernel) rfl, by decide +kernel, by decide +kernel, by decide +kernel, by decide +kernel⟩, om_mem 80 (by decide +kernel) rfl, rfl, rfl⟩
theorem mt_min_c : Cond.code Lib.Math.min.name Lib.Math.min.code 2 (some .int) ∈ om_tb := om_mem 128 (by decide +kernel) rfl
theorem mt_min_s : Cond.static Lib.Math.min.name ∈ om_tb := om_mem 127 (by decide +kernel) rfl
theorem mt_min_i : Cond.initialized "java/lang/Math" ∈ om_tb := om_mem 50 (by decide +kernel) rfl
theorem mt_max_c : Cond.code Lib.Math.max.name Lib.Math.max.code 2 (some .int) ∈ om_tb := om_mem 131 (by decide +kernel) rfl
theorem mt_max_s : Cond.static Lib.Math.max.name ∈ om_tb := om_mem 130 (by decide +kernel) rfl
theorem mt_max_i : Cond.initialized "java/lang/Math" ∈ om_tb := om_mem 50 (by decide +kernel) rfl
abbrev kX1_init : om_k := (yX1_init, cX1_init, 2, none)
theorem mkX1_init : om_Ix kX1_init 1 := ⟨⟨om_mem 135 (by decide +kernel) rfl, om_mem 51 (by decide +kernel) rfl, by decide +kernel, by decide +kernel, by decide +kernel, by decide +kernel⟩, om_mem 134 (by decide +kernel) rfl, rfl, rfl⟩
abbrev kX5_init : om_k := (yX5_init, cX5_init, 3, none)
theorem mkX5_init : om_Ix kX5_init 1 := ⟨⟨om_mem 164 (by decide +kernel) rfl, om_mem 52 (by decide +kernel) rfl, by decide +kernel, by decide +kernel, by decide +kernel, by decide +kernel⟩, om_mem 163 (by decide +kernel) rfl, rfl, rfl⟩
abbrev kX3_init : om_k := (yX3_init, cX3_init, 2, none)
theorem mkX3_init : om_Ix kX3_init 1 := ⟨⟨om_mem 171 (by decide +kernel) rfl, om_mem 53 (by decide +kernel) rfl, by decide +kernel, by decide +kernel, by decide +kernel, by decide +kernel⟩, om_mem 170 (by decide +kernel) rfl, rfl, rfl⟩
abbrev kX6_ask : om_k := (yX6_ask, cX6_ask, 10, some .int)
theorem mkX6_ask : om_V kX6_ask 7 := ⟨⟨om_mem 229 (by decide +kernel) rfl, om_mem 47 (by decide +kernel) rfl, by decide +kernel, by decide +kernel, by decide +kernel, by decide +kernel⟩, om_mem 227 (by decide +kernel) rfl, om_mem 228 (by decide +kernel) rfl⟩
abbrev kX6_serverOf : om_k := (yX6_serverOf, cX6_serverOf, 2, some (.object "OnceOnly$Server"))
theorem mkX6_serverOf : om_V kX6_serverOf 1 := ⟨⟨om_mem 233 (by decide +kernel) rfl, om_mem 47 (by decide +kernel) rfl, by decide +kernel, by decide +kernel, by decide +kernel, by decide +kernel⟩, om_mem 232 (by decide +kernel) rfl, om_mem 0 (by decide +kernel) rfl⟩
abbrev kX6_isAccount : om_k := (yX6_isAccount, cX6_isAccount, 1, some .boolean)
theorem mkX6_isAccount : om_Sx kX6_isAccount 1 := ⟨⟨om_mem 237 (by decide +kernel) rfl, om_mem 47 (by decide +kernel) rfl, by decide +kernel, by decide +kernel, by decide +kernel, by decide +kernel⟩, om_mem 236 (by decide +kernel) rfl⟩
abbrev kX6_isAmount : om_k := (yX6_isAmount, cX6_isAmount, 2, some .boolean)
theorem mkX6_isAmount : om_Sx kX6_isAmount 2 := ⟨⟨om_mem 240 (by decide +kernel) rfl, om_mem 47 (by decide +kernel) rfl, by decide +kernel, by decide +kernel, by decide +kernel, by decide +kernel⟩, om_mem 239 (by decide +kernel) rfl⟩
abbrev kX6_endOf : om_k := (yX6_endOf, cX6_endOf, 2, some (.object "OnceOnly$End"))
theorem mkX6_endOf : om_V kX6_endOf 1 := ⟨⟨om_mem 246 (by decide +kernel) rfl, om_mem 47 (by decide +kernel) rfl, by decide +kernel, by decide +kernel, by decide +kernel, by decide +kernel⟩, om_mem 245 (by decide +kernel) rfl, om_mem 1 (by decide +kernel) rfl⟩
abbrev kX6_newAsk : om_k := (yX6_newAsk, cX6_newAsk, 9, some (.object "OnceOnly$Ask"))
theorem mkX6_newAsk : om_V kX6_newAsk 7 := ⟨⟨om_mem 251 (by decide +kernel) rfl, om_mem 47 (by decide +kernel) rfl, by decide +kernel, by decide +kernel, by decide +kernel, by decide +kernel⟩, om_mem 250 (by decide +kernel) rfl, om_mem 2 (by decide +kernel) rfl⟩
abbrev kX1_lowestOpen : om_k := (yX1_lowestOpen, cX1_lowestOpen, 1, some .int)
theorem mkX1_lowestOpen : om_V kX1_lowestOpen 0 := ⟨⟨om_mem 255 (by decide +kernel) rfl, om_mem 51 (by decide +kernel) rfl, by decide +kernel, by decide +kernel, by decide +kernel, by decide +kernel⟩, om_mem 253 (by decide +kernel) rfl, om_mem 254 (by decide +kernel) rfl⟩
abbrev kX1_isOpen : om_k := (yX1_isOpen, cX1_isOpen, 1, some .boolean)
theorem mkX1_isOpen : om_Sx kX1_isOpen 1 := ⟨⟨om_mem 258 (by decide +kernel) rfl, om_mem 51 (by decide +kernel) rfl, by decide +kernel, by decide +kernel, by decide +kernel, by decide +kernel⟩, om_mem 257 (by decide +kernel) rfl⟩
abbrev kX0_init : om_k := (yX0_init, cX0_init, 5, none)
theorem mkX0_init : om_Ix kX0_init 4 := ⟨⟨om_mem 262 (by decide +kernel) rfl, om_mem 55 (by decide +kernel) rfl, by decide +kernel, by decide +kernel, by decide +kernel, by decide +kernel⟩, om_mem 261 (by decide +kernel) rfl, rfl, rfl⟩
abbrev kX1_keep : om_k := (yX1_keep, cX1_keep, 2, none)
theorem mkX1_keep : om_V kX1_keep 1 := ⟨⟨om_mem 322 (by decide +kernel) rfl, om_mem 51 (by decide +kernel) rfl, by decide +kernel, by decide +kernel, by decide +kernel, by decide +kernel⟩, om_mem 320 (by decide +kernel) rfl, om_mem 321 (by decide +kernel) rfl⟩
abbrev kX6_sendAsk : om_k := (yX6_sendAsk, cX6_sendAsk, 5, some .int)
theorem mkX6_sendAsk : om_V kX6_sendAsk 2 := ⟨⟨om_mem 327 (by decide +kernel) rfl, om_mem 47 (by decide +kernel) rfl, by decide +kernel, by decide +kernel, by decide +kernel, by decide +kernel⟩, om_mem 326 (by decide +kernel) rfl, om_mem 3 (by decide +kernel) rfl⟩
abbrev kX4_fresh : om_k := (yX4_fresh, cX4_fresh, 1, some (.object "OnceOnly$Letter"))
theorem mkX4_fresh : om_V kX4_fresh 0 := ⟨⟨om_mem 331 (by decide +kernel) rfl, om_mem 48 (by decide +kernel) rfl, by decide +kernel, by decide +kernel, by decide +kernel, by decide +kernel⟩, om_mem 329 (by decide +kernel) rfl, om_mem 330 (by decide +kernel) rfl⟩
abbrev kX4_isFull : om_k := (yX4_isFull, cX4_isFull, 1, some .boolean)
theorem mkX4_isFull : om_V kX4_isFull 0 := ⟨⟨om_mem 335 (by decide +kernel) rfl, om_mem 48 (by decide +kernel) rfl, by decide +kernel, by decide +kernel, by decide +kernel, by decide +kernel⟩, om_mem 333 (by decide +kernel) rfl, om_mem 334 (by decide +kernel) rfl⟩
abbrev kX4_slot : om_k := (yX4_slot, cX4_slot, 2, some .int)
theorem mkX4_slot : om_V kX4_slot 1 := ⟨⟨om_mem 339 (by decide +kernel) rfl, om_mem 48 (by decide +kernel) rfl, by decide +kernel, by decide +kernel, by decide +kernel, by decide +kernel⟩, om_mem 338 (by decide +kernel) rfl, om_mem 4 (by decide +kernel) rfl⟩
abbrev kX2_asks : om_k := (yX2_asks, cX2_asks, 3, none)
theorem mkX2_asks : om_V kX2_asks 2 := ⟨⟨om_mem 343 (by decide +kernel) rfl, om_mem 49 (by decide +kernel) rfl, by decide +kernel, by decide +kernel, by decide +kernel, by decide +kernel⟩, om_mem 341 (by decide +kernel) rfl, om_mem 342 (by decide +kernel) rfl⟩
abbrev kX6_again : om_k := (yX6_again, cX6_again, 4, some .int)
theorem mkX6_again : om_V kX6_again 1 := ⟨⟨om_mem 347 (by decide +kernel) rfl, om_mem 47 (by decide +kernel) rfl, by decide +kernel, by decide +kernel, by decide +kernel, by decide +kernel⟩, om_mem 345 (by decide +kernel) rfl, om_mem 346 (by decide +kernel) rfl⟩
abbrev kX6_askOf : om_k := (yX6_askOf, cX6_askOf, 2, some (.object "OnceOnly$Ask"))
theorem mkX6_askOf : om_V kX6_askOf 1 := ⟨⟨om_mem 351 (by decide +kernel) rfl, om_mem 47 (by decide +kernel) rfl, by decide +kernel, by decide +kernel, by decide +kernel, by decide +kernel⟩, om_mem 350 (by decide +kernel) rfl, om_mem 5 (by decide +kernel) rfl⟩
abbrev kX6_told : om_k := (yX6_told, cX6_told, 4, some .int)
theorem mkX6_told : om_V kX6_told 2 := ⟨⟨om_mem 356 (by decide +kernel) rfl, om_mem 47 (by decide +kernel) rfl, by decide +kernel, by decide +kernel, by decide +kernel, by decide +kernel⟩, om_mem 354 (by decide +kernel) rfl, om_mem 355 (by decide +kernel) rfl⟩
abbrev kX6_idOf : om_k := (yX6_idOf, cX6_idOf, 1, some .int)
theorem mkX6_idOf : om_Sx kX6_idOf 1 := ⟨⟨om_mem 359 (by decide +kernel) rfl, om_mem 47 (by decide +kernel) rfl, by decide +kernel, by decide +kernel, by decide +kernel, by decide +kernel⟩, om_mem 358 (by decide +kernel) rfl⟩
abbrev kX6_answer : om_k := (yX6_answer, cX6_answer, 3, some .long)
theorem mkX6_answer : om_V kX6_answer 1 := ⟨⟨om_mem 363 (by decide +kernel) rfl, om_mem 47 (by decide +kernel) rfl, by decide +kernel, by decide +kernel, by decide +kernel, by decide +kernel⟩, om_mem 361 (by decide +kernel) rfl, om_mem 362 (by decide +kernel) rfl⟩
abbrev kX6_name : om_k := (yX6_name, cX6_name, 4, some .int)
theorem mkX6_name : om_V kX6_name 2 := ⟨⟨om_mem 369 (by decide +kernel) rfl, om_mem 47 (by decide +kernel) rfl, by decide +kernel, by decide +kernel, by decide +kernel, by decide +kernel⟩, om_mem 367 (by decide +kernel) rfl, om_mem 368 (by decide +kernel) rfl⟩
abbrev kX6_deliver : om_k := (yX6_deliver, cX6_deliver, 3, some .int)
theorem mkX6_deliver : om_V kX6_deliver 2 := ⟨⟨om_mem 373 (by decide +kernel) rfl, om_mem 47 (by decide +kernel) rfl, by decide +kernel, by decide +kernel, by decide +kernel, by decide +kernel⟩, om_mem 371 (by decide +kernel) rfl, om_mem 372 (by decide +kernel) rfl⟩
abbrev kX4_at : om_k := (yX4_at, cX4_at, 2, some (.object "OnceOnly$Letter"))
theorem mkX4_at : om_V kX4_at 1 := ⟨⟨om_mem 377 (by decide +kernel) rfl, om_mem 48 (by decide +kernel) rfl, by decide +kernel, by decide +kernel, by decide +kernel, by decide +kernel⟩, om_mem 375 (by decide +kernel) rfl, om_mem 376 (by decide +kernel) rfl⟩
abbrev kX6_come : om_k := (yX6_come, cX6_come, 7, some .int)
theorem mkX6_come : om_V kX6_come 2 := ⟨⟨om_mem 381 (by decide +kernel) rfl, om_mem 47 (by decide +kernel) rfl, by decide +kernel, by decide +kernel, by decide +kernel, by decide +kernel⟩, om_mem 380 (by decide +kernel) rfl, om_mem 6 (by decide +kernel) rfl⟩
abbrev kX4_take : om_k := (yX4_take, cX4_take, 4, some (.object "OnceOnly$Letter"))
theorem mkX4_take : om_V kX4_take 1 := ⟨⟨om_mem 385 (by decide +kernel) rfl, om_mem 48 (by decide +kernel) rfl, by decide +kernel, by decide +kernel, by decide +kernel, by decide +kernel⟩, om_mem 383 (by decide +kernel) rfl, om_mem 384 (by decide +kernel) rfl⟩
abbrev kX6_serve : om_k := (yX6_serve, cX6_serve, 7, some .int)
theorem mkX6_serve : om_V kX6_serve 3 := ⟨⟨om_mem 390 (by decide +kernel) rfl, om_mem 47 (by decide +kernel) rfl, by decide +kernel, by decide +kernel, by decide +kernel, by decide +kernel⟩, om_mem 389 (by decide +kernel) rfl, om_mem 7 (by decide +kernel) rfl⟩
abbrev kX6_memoryOf : om_k := (yX6_memoryOf, cX6_memoryOf, 4, some (.object "OnceOnly$Memory"))
theorem mkX6_memoryOf : om_V kX6_memoryOf 2 := ⟨⟨om_mem 394 (by decide +kernel) rfl, om_mem 47 (by decide +kernel) rfl, by decide +kernel, by decide +kernel, by decide +kernel, by decide +kernel⟩, om_mem 393 (by decide +kernel) rfl, om_mem 8 (by decide +kernel) rfl⟩
abbrev kX5_memoryOf : om_k := (yX5_memoryOf, cX5_memoryOf, 2, some (.object "OnceOnly$Memory"))
theorem mkX5_memoryOf : om_V kX5_memoryOf 1 := ⟨⟨om_mem 398 (by decide +kernel) rfl, om_mem 52 (by decide +kernel) rfl, by decide +kernel, by decide +kernel, by decide +kernel, by decide +kernel⟩, om_mem 396 (by decide +kernel) rfl, om_mem 397 (by decide +kernel) rfl⟩
abbrev kX6_sendOver : om_k := (yX6_sendOver, cX6_sendOver, 4, some .int)
theorem mkX6_sendOver : om_V kX6_sendOver 2 := ⟨⟨om_mem 402 (by decide +kernel) rfl, om_mem 47 (by decide +kernel) rfl, by decide +kernel, by decide +kernel, by decide +kernel, by decide +kernel⟩, om_mem 401 (by decide +kernel) rfl, om_mem 9 (by decide +kernel) rfl⟩
abbrev kX2_refuses : om_k := (yX2_refuses, cX2_refuses, 2, none)
theorem mkX2_refuses : om_V kX2_refuses 1 := ⟨⟨om_mem 406 (by decide +kernel) rfl, om_mem 49 (by decide +kernel) rfl, by decide +kernel, by decide +kernel, by decide +kernel, by decide +kernel⟩, om_mem 404 (by decide +kernel) rfl, om_mem 405 (by decide +kernel) rfl⟩
abbrev kX2_replies : om_k := (yX2_replies, cX2_replies, 4, none)
theorem mkX2_replies : om_V kX2_replies 2 := ⟨⟨om_mem 410 (by decide +kernel) rfl, om_mem 49 (by decide +kernel) rfl, by decide +kernel, by decide +kernel, by decide +kernel, by decide +kernel⟩, om_mem 408 (by decide +kernel) rfl, om_mem 409 (by decide +kernel) rfl⟩
abbrev kX3_beginLife : om_k := (yX3_beginLife, cX3_beginLife, 3, none)
theorem mkX3_beginLife : om_V kX3_beginLife 1 := ⟨⟨om_mem 415 (by decide +kernel) rfl, om_mem 53 (by decide +kernel) rfl, by decide +kernel, by decide +kernel, by decide +kernel, by decide +kernel⟩, om_mem 413 (by decide +kernel) rfl, om_mem 414 (by decide +kernel) rfl⟩
abbrev kX3_forget : om_k := (yX3_forget, cX3_forget, 2, none)
theorem mkX3_forget : om_V kX3_forget 1 := ⟨⟨om_mem 419 (by decide +kernel) rfl, om_mem 53 (by decide +kernel) rfl, by decide +kernel, by decide +kernel, by decide +kernel, by decide +kernel⟩, om_mem 418 (by decide +kernel) rfl, om_mem 10 (by decide +kernel) rfl⟩
abbrev kX3_raiseLow : om_k := (yX3_raiseLow, cX3_raiseLow, 4, none)
theorem mkX3_raiseLow : om_V kX3_raiseLow 1 := ⟨⟨om_mem 423 (by decide +kernel) rfl, om_mem 53 (by decide +kernel) rfl, by decide +kernel, by decide +kernel, by decide +kernel, by decide +kernel⟩, om_mem 421 (by decide +kernel) rfl, om_mem 422 (by decide +kernel) rfl⟩
abbrev kX3_stateOf : om_k := (yX3_stateOf, cX3_stateOf, 2, some .int)
theorem mkX3_stateOf : om_V kX3_stateOf 1 := ⟨⟨om_mem 428 (by decide +kernel) rfl, om_mem 53 (by decide +kernel) rfl, by decide +kernel, by decide +kernel, by decide +kernel, by decide +kernel⟩, om_mem 426 (by decide +kernel) rfl, om_mem 427 (by decide +kernel) rfl⟩
abbrev kX3_isWithin : om_k := (yX3_isWithin, cX3_isWithin, 2, some .boolean)
theorem mkX3_isWithin : om_V kX3_isWithin 1 := ⟨⟨om_mem 432 (by decide +kernel) rfl, om_mem 53 (by decide +kernel) rfl, by decide +kernel, by decide +kernel, by decide +kernel, by decide +kernel⟩, om_mem 430 (by decide +kernel) rfl, om_mem 431 (by decide +kernel) rfl⟩
abbrev kX6_act : om_k := (yX6_act, cX6_act, 8, some .int)
theorem mkX6_act : om_V kX6_act 4 := ⟨⟨om_mem 436 (by decide +kernel) rfl, om_mem 47 (by decide +kernel) rfl, by decide +kernel, by decide +kernel, by decide +kernel, by decide +kernel⟩, om_mem 435 (by decide +kernel) rfl, om_mem 11 (by decide +kernel) rfl⟩
abbrev kX5_has : om_k := (yX5_has, cX5_has, 2, some .long)
theorem mkX5_has : om_V kX5_has 1 := ⟨⟨om_mem 440 (by decide +kernel) rfl, om_mem 52 (by decide +kernel) rfl, by decide +kernel, by decide +kernel, by decide +kernel, by decide +kernel⟩, om_mem 438 (by decide +kernel) rfl, om_mem 439 (by decide +kernel) rfl⟩
abbrev kX6_sendAnswer : om_k := (yX6_sendAnswer, cX6_sendAnswer, 6, some .int)
theorem mkX6_sendAnswer : om_V kX6_sendAnswer 3 := ⟨⟨om_mem 444 (by decide +kernel) rfl, om_mem 47 (by decide +kernel) rfl, by decide +kernel, by decide +kernel, by decide +kernel, by decide +kernel⟩, om_mem 443 (by decide +kernel) rfl, om_mem 12 (by decide +kernel) rfl⟩
abbrev kX6_beginFar : om_k := (yX6_beginFar, cX6_beginFar, 6, some (.object "OnceOnly$Ask"))
theorem mkX6_beginFar : om_V kX6_beginFar 3 := ⟨⟨om_mem 449 (by decide +kernel) rfl, om_mem 47 (by decide +kernel) rfl, by decide +kernel, by decide +kernel, by decide +kernel, by decide +kernel⟩, om_mem 448 (by decide +kernel) rfl, om_mem 13 (by decide +kernel) rfl⟩
abbrev kX5_lets : om_k := (yX5_lets, cX5_lets, 6, some .boolean)
theorem mkX5_lets : om_V kX5_lets 2 := ⟨⟨om_mem 453 (by decide +kernel) rfl, om_mem 52 (by decide +kernel) rfl, by decide +kernel, by decide +kernel, by decide +kernel, by decide +kernel⟩, om_mem 451 (by decide +kernel) rfl, om_mem 452 (by decide +kernel) rfl⟩
abbrev kX5_change : om_k := (yX5_change, cX5_change, 4, none)
theorem mkX5_change : om_V kX5_change 2 := ⟨⟨om_mem 459 (by decide +kernel) rfl, om_mem 52 (by decide +kernel) rfl, by decide +kernel, by decide +kernel, by decide +kernel, by decide +kernel⟩, om_mem 457 (by decide +kernel) rfl, om_mem 458 (by decide +kernel) rfl⟩
abbrev kX3_write : om_k := (yX3_write, cX3_write, 5, none)
theorem mkX3_write : om_V kX3_write 3 := ⟨⟨om_mem 463 (by decide +kernel) rfl, om_mem 53 (by decide +kernel) rfl, by decide +kernel, by decide +kernel, by decide +kernel, by decide +kernel⟩, om_mem 461 (by decide +kernel) rfl, om_mem 462 (by decide +kernel) rfl⟩
abbrev kX6_add : om_k := (yX6_add, cX6_add, 3, some .long)
theorem mkX6_add : om_V kX6_add 2 := ⟨⟨om_mem 468 (by decide +kernel) rfl, om_mem 47 (by decide +kernel) rfl, by decide +kernel, by decide +kernel, by decide +kernel, by decide +kernel⟩, om_mem 467 (by decide +kernel) rfl, om_mem 14 (by decide +kernel) rfl⟩
abbrev kX6_move : om_k := (yX6_move, cX6_move, 3, some .long)
theorem mkX6_move : om_V kX6_move 2 := ⟨⟨om_mem 472 (by decide +kernel) rfl, om_mem 47 (by decide +kernel) rfl, by decide +kernel, by decide +kernel, by decide +kernel, by decide +kernel⟩, om_mem 471 (by decide +kernel) rfl, om_mem 15 (by decide +kernel) rfl⟩
abbrev kX6_cancel : om_k := (yX6_cancel, cX6_cancel, 5, some .long)
theorem mkX6_cancel : om_V kX6_cancel 2 := ⟨⟨om_mem 476 (by decide +kernel) rfl, om_mem 47 (by decide +kernel) rfl, by decide +kernel, by decide +kernel, by decide +kernel, by decide +kernel⟩, om_mem 475 (by decide +kernel) rfl, om_mem 16 (by decide +kernel) rfl⟩
abbrev kX6_remind : om_k := (yX6_remind, cX6_remind, 3, some .int)
theorem mkX6_remind : om_V kX6_remind 2 := ⟨⟨om_mem 484 (by decide +kernel) rfl, om_mem 47 (by decide +kernel) rfl, by decide +kernel, by decide +kernel, by decide +kernel, by decide +kernel⟩, om_mem 483 (by decide +kernel) rfl, om_mem 17 (by decide +kernel) rfl⟩
abbrev kX3_answerOf : om_k := (yX3_answerOf, cX3_answerOf, 2, some .long)
theorem mkX3_answerOf : om_V kX3_answerOf 1 := ⟨⟨om_mem 488 (by decide +kernel) rfl, om_mem 53 (by decide +kernel) rfl, by decide +kernel, by decide +kernel, by decide +kernel, by decide +kernel⟩, om_mem 486 (by decide +kernel) rfl, om_mem 487 (by decide +kernel) rfl⟩
abbrev kX6_hear : om_k := (yX6_hear, cX6_hear, 3, none)
theorem mkX6_hear : om_V kX6_hear 2 := ⟨⟨om_mem 492 (by decide +kernel) rfl, om_mem 47 (by decide +kernel) rfl, by decide +kernel, by decide +kernel, by decide +kernel, by decide +kernel⟩, om_mem 491 (by decide +kernel) rfl, om_mem 18 (by decide +kernel) rfl⟩
abbrev kX0_close : om_k := (yX0_close, cX0_close, 3, none)
theorem mkX0_close : om_V kX0_close 1 := ⟨⟨om_mem 496 (by decide +kernel) rfl, om_mem 55 (by decide +kernel) rfl, by decide +kernel, by decide +kernel, by decide +kernel, by decide +kernel⟩, om_mem 494 (by decide +kernel) rfl, om_mem 495 (by decide +kernel) rfl⟩
abbrev kX6_finishFar : om_k := (yX6_finishFar, cX6_finishFar, 9, some .int)
theorem mkX6_finishFar : om_V kX6_finishFar 3 := ⟨⟨om_mem 500 (by decide +kernel) rfl, om_mem 47 (by decide +kernel) rfl, by decide +kernel, by decide +kernel, by decide +kernel, by decide +kernel⟩, om_mem 499 (by decide +kernel) rfl, om_mem 19 (by decide +kernel) rfl⟩
abbrev kX6_bringDown : om_k := (yX6_bringDown, cX6_bringDown, 2, none)
theorem mkX6_bringDown : om_V kX6_bringDown 1 := ⟨⟨om_mem 504 (by decide +kernel) rfl, om_mem 47 (by decide +kernel) rfl, by decide +kernel, by decide +kernel, by decide +kernel, by decide +kernel⟩, om_mem 503 (by decide +kernel) rfl, om_mem 20 (by decide +kernel) rfl⟩
abbrev kX6_lose : om_k := (yX6_lose, cX6_lose, 2, some .int)
theorem mkX6_lose : om_V kX6_lose 1 := ⟨⟨om_mem 508 (by decide +kernel) rfl, om_mem 47 (by decide +kernel) rfl, by decide +kernel, by decide +kernel, by decide +kernel, by decide +kernel⟩, om_mem 506 (by decide +kernel) rfl, om_mem 507 (by decide +kernel) rfl⟩
abbrev kX6_twice : om_k := (yX6_twice, cX6_twice, 4, some .int)
theorem mkX6_twice : om_V kX6_twice 1 := ⟨⟨om_mem 512 (by decide +kernel) rfl, om_mem 47 (by decide +kernel) rfl, by decide +kernel, by decide +kernel, by decide +kernel, by decide +kernel⟩, om_mem 510 (by decide +kernel) rfl, om_mem 511 (by decide +kernel) rfl⟩
abbrev kX2_become : om_k := (yX2_become, cX2_become, 2, none)
theorem mkX2_become : om_V kX2_become 1 := ⟨⟨om_mem 516 (by decide +kernel) rfl, om_mem 49 (by decide +kernel) rfl, by decide +kernel, by decide +kernel, by decide +kernel, by decide +kernel⟩, om_mem 514 (by decide +kernel) rfl, om_mem 515 (by decide +kernel) rfl⟩
abbrev kX6_bend : om_k := (yX6_bend, cX6_bend, 3, some .int)
theorem mkX6_bend : om_V kX6_bend 1 := ⟨⟨om_mem 520 (by decide +kernel) rfl, om_mem 47 (by decide +kernel) rfl, by decide +kernel, by decide +kernel, by decide +kernel, by decide +kernel⟩, om_mem 518 (by decide +kernel) rfl, om_mem 519 (by decide +kernel) rfl⟩
abbrev kX6_letter : om_k := (yX6_letter, cX6_letter, 4, some .int)
theorem mkX6_letter : om_V kX6_letter 2 := ⟨⟨om_mem 524 (by decide +kernel) rfl, om_mem 47 (by decide +kernel) rfl, by decide +kernel, by decide +kernel, by decide +kernel, by decide +kernel⟩, om_mem 522 (by decide +kernel) rfl, om_mem 523 (by decide +kernel) rfl⟩
abbrev kX6_flow : om_k := (yX6_flow, cX6_flow, 3, some .int)
theorem mkX6_flow : om_V kX6_flow 1 := ⟨⟨om_mem 528 (by decide +kernel) rfl, om_mem 47 (by decide +kernel) rfl, by decide +kernel, by decide +kernel, by decide +kernel, by decide +kernel⟩, om_mem 526 (by decide +kernel) rfl, om_mem 527 (by decide +kernel) rfl⟩
abbrev kX6_fall : om_k := (yX6_fall, cX6_fall, 3, some .int)
theorem mkX6_fall : om_V kX6_fall 1 := ⟨⟨om_mem 532 (by decide +kernel) rfl, om_mem 47 (by decide +kernel) rfl, by decide +kernel, by decide +kernel, by decide +kernel, by decide +kernel⟩, om_mem 530 (by decide +kernel) rfl, om_mem 531 (by decide +kernel) rfl⟩
abbrev kX6_rise : om_k := (yX6_rise, cX6_rise, 3, some .int)
theorem mkX6_rise : om_V kX6_rise 1 := ⟨⟨om_mem 536 (by decide +kernel) rfl, om_mem 47 (by decide +kernel) rfl, by decide +kernel, by decide +kernel, by decide +kernel, by decide +kernel⟩, om_mem 534 (by decide +kernel) rfl, om_mem 535 (by decide +kernel) rfl⟩
abbrev kX1_beginLife : om_k := (yX1_beginLife, cX1_beginLife, 3, none)
theorem mkX1_beginLife : om_V kX1_beginLife 0 := ⟨⟨om_mem 540 (by decide +kernel) rfl, om_mem 51 (by decide +kernel) rfl, by decide +kernel, by decide +kernel, by decide +kernel, by decide +kernel⟩, om_mem 538 (by decide +kernel) rfl, om_mem 539 (by decide +kernel) rfl⟩
abbrev kX6_account : om_k := (yX6_account, cX6_account, 4, some .long)
theorem mkX6_account : om_V kX6_account 2 := ⟨⟨om_mem 544 (by decide +kernel) rfl, om_mem 47 (by decide +kernel) rfl, by decide +kernel, by decide +kernel, by decide +kernel, by decide +kernel⟩, om_mem 542 (by decide +kernel) rfl, om_mem 543 (by decide +kernel) rfl⟩
abbrev kX6_kept : om_k := (yX6_kept, cX6_kept, 5, some .int)
theorem mkX6_kept : om_V kX6_kept 3 := ⟨⟨om_mem 548 (by decide +kernel) rfl, om_mem 47 (by decide +kernel) rfl, by decide +kernel, by decide +kernel, by decide +kernel, by decide +kernel⟩, om_mem 546 (by decide +kernel) rfl, om_mem 547 (by decide +kernel) rfl⟩
abbrev kX6_record : om_k := (yX6_record, cX6_record, 5, some .int)
theorem mkX6_record : om_V kX6_record 3 := ⟨⟨om_mem 552 (by decide +kernel) rfl, om_mem 47 (by decide +kernel) rfl, by decide +kernel, by decide +kernel, by decide +kernel, by decide +kernel⟩, om_mem 550 (by decide +kernel) rfl, om_mem 551 (by decide +kernel) rfl⟩
abbrev kX6_leave : om_k := (yX6_leave, cX6_leave, 6, some .int)
theorem mkX6_leave : om_V kX6_leave 2 := ⟨⟨om_mem 556 (by decide +kernel) rfl, om_mem 47 (by decide +kernel) rfl, by decide +kernel, by decide +kernel, by decide +kernel, by decide +kernel⟩, om_mem 554 (by decide +kernel) rfl, om_mem 555 (by decide +kernel) rfl⟩
abbrev kX3_hasMidst : om_k := (yX3_hasMidst, cX3_hasMidst, 2, some .boolean)
theorem mkX3_hasMidst : om_V kX3_hasMidst 0 := ⟨⟨om_mem 560 (by decide +kernel) rfl, om_mem 53 (by decide +kernel) rfl, by decide +kernel, by decide +kernel, by decide +kernel, by decide +kernel⟩, om_mem 558 (by decide +kernel) rfl, om_mem 559 (by decide +kernel) rfl⟩
abbrev kX6_times : om_k := (yX6_times, cX6_times, 3, some .int)
theorem mkX6_times : om_V kX6_times 1 := ⟨⟨om_mem 565 (by decide +kernel) rfl, om_mem 47 (by decide +kernel) rfl, by decide +kernel, by decide +kernel, by decide +kernel, by decide +kernel⟩, om_mem 563 (by decide +kernel) rfl, om_mem 564 (by decide +kernel) rfl⟩
abbrev kX6_audit : om_k := (yX6_audit, cX6_audit, 2, some .long)
theorem mkX6_audit : om_V kX6_audit 1 := ⟨⟨om_mem 569 (by decide +kernel) rfl, om_mem 47 (by decide +kernel) rfl, by decide +kernel, by decide +kernel, by decide +kernel, by decide +kernel⟩, om_mem 567 (by decide +kernel) rfl, om_mem 568 (by decide +kernel) rfl⟩
abbrev kX6_sumOfAccounts : om_k := (yX6_sumOfAccounts, cX6_sumOfAccounts, 5, some .long)
theorem mkX6_sumOfAccounts : om_V kX6_sumOfAccounts 0 := ⟨⟨om_mem 573 (by decide +kernel) rfl, om_mem 47 (by decide +kernel) rfl, by decide +kernel, by decide +kernel, by decide +kernel, by decide +kernel⟩, om_mem 572 (by decide +kernel) rfl, om_mem 21 (by decide +kernel) rfl⟩
abbrev kX6_sumUnderWay : om_k := (yX6_sumUnderWay, cX6_sumUnderWay, 5, some .long)
theorem mkX6_sumUnderWay : om_V kX6_sumUnderWay 0 := ⟨⟨om_mem 578 (by decide +kernel) rfl, om_mem 47 (by decide +kernel) rfl, by decide +kernel, by decide +kernel, by decide +kernel, by decide +kernel⟩, om_mem 577 (by decide +kernel) rfl, om_mem 22 (by decide +kernel) rfl⟩
abbrev kX6_sumOfAdds : om_k := (yX6_sumOfAdds, cX6_sumOfAdds, 5, some .long)
theorem mkX6_sumOfAdds : om_V kX6_sumOfAdds 0 := ⟨⟨om_mem 582 (by decide +kernel) rfl, om_mem 47 (by decide +kernel) rfl, by decide +kernel, by decide +kernel, by decide +kernel, by decide +kernel⟩, om_mem 581 (by decide +kernel) rfl, om_mem 23 (by decide +kernel) rfl⟩
abbrev kX6_witness : om_k := (yX6_witness, cX6_witness, 3, some .long)
theorem mkX6_witness : om_V kX6_witness 1 := ⟨⟨om_mem 586 (by decide +kernel) rfl, om_mem 47 (by decide +kernel) rfl, by decide +kernel, by decide +kernel, by decide +kernel, by decide +kernel⟩, om_mem 584 (by decide +kernel) rfl, om_mem 585 (by decide +kernel) rfl⟩
abbrev kX0_seal : om_k := (yX0_seal, cX0_seal, 3, some .long)
theorem mkX0_seal : om_V kX0_seal 0 := ⟨⟨om_mem 590 (by decide +kernel) rfl, om_mem 55 (by decide +kernel) rfl, by decide +kernel, by decide +kernel, by decide +kernel, by decide +kernel⟩, om_mem 588 (by decide +kernel) rfl, om_mem 589 (by decide +kernel) rfl⟩
abbrev kX6_check : om_k := (yX6_check, cX6_check, 5, some .int)
theorem mkX6_check : om_V kX6_check 2 := ⟨⟨om_mem 596 (by decide +kernel) rfl, om_mem 47 (by decide +kernel) rfl, by decide +kernel, by decide +kernel, by decide +kernel, by decide +kernel⟩, om_mem 594 (by decide +kernel) rfl, om_mem 595 (by decide +kernel) rfl⟩
abbrev kX6_count : om_k := (yX6_count, cX6_count, 2, some .int)
theorem mkX6_count : om_V kX6_count 1 := ⟨⟨om_mem 600 (by decide +kernel) rfl, om_mem 47 (by decide +kernel) rfl, by decide +kernel, by decide +kernel, by decide +kernel, by decide +kernel⟩, om_mem 598 (by decide +kernel) rfl, om_mem 599 (by decide +kernel) rfl⟩
abbrev kX6_openAsks : om_k := (yX6_openAsks, cX6_openAsks, 4, some .int)
theorem mkX6_openAsks : om_V kX6_openAsks 0 := ⟨⟨om_mem 604 (by decide +kernel) rfl, om_mem 47 (by decide +kernel) rfl, by decide +kernel, by decide +kernel, by decide +kernel, by decide +kernel⟩, om_mem 603 (by decide +kernel) rfl, om_mem 24 (by decide +kernel) rfl⟩
abbrev kX6_allRecords : om_k := (yX6_allRecords, cX6_allRecords, 4, some .int)
theorem mkX6_allRecords : om_V kX6_allRecords 0 := ⟨⟨om_mem 608 (by decide +kernel) rfl, om_mem 47 (by decide +kernel) rfl, by decide +kernel, by decide +kernel, by decide +kernel, by decide +kernel⟩, om_mem 607 (by decide +kernel) rfl, om_mem 25 (by decide +kernel) rfl⟩
abbrev kL_cell : om_k := (yL_cell, cL_cell, 2, some .int)
theorem mkL_cell : om_Sx kL_cell 2 := ⟨⟨om_mem 612 (by decide +kernel) rfl, om_mem 46 (by decide +kernel) rfl, by decide +kernel, by decide +kernel, by decide +kernel, by decide +kernel⟩, om_mem 611 (by decide +kernel) rfl⟩
abbrev kX7_init : om_k := (yX7_init, cX7_init, 3, none)
theorem mkX7_init : om_Ix kX7_init 1 := ⟨⟨om_mem 617 (by decide +kernel) rfl, om_mem 54 (by decide +kernel) rfl, by decide +kernel, by decide +kernel, by decide +kernel, by decide +kernel⟩, om_mem 616 (by decide +kernel) rfl, rfl, rfl⟩
abbrev kX7_ask : om_k := (yX7_ask, cX7_ask, 9, some .int)
theorem mkX7_ask : om_V kX7_ask 7 := ⟨⟨om_mem 744 (by decide +kernel) rfl, om_mem 54 (by decide +kernel) rfl, by decide +kernel, by decide +kernel, by decide +kernel, by decide +kernel⟩, om_mem 742 (by decide +kernel) rfl, om_mem 743 (by decide +kernel) rfl⟩
abbrev kX7_in : om_k := (yX7_in, cX7_in, 6, some .boolean)
theorem mkX7_in : om_Sx kX7_in 3 := ⟨⟨om_mem 748 (by decide +kernel) rfl, om_mem 54 (by decide +kernel) rfl, by decide +kernel, by decide +kernel, by decide +kernel, by decide +kernel⟩, om_mem 747 (by decide +kernel) rfl⟩
abbrev kX7_isUsedUp : om_k := (yX7_isUsedUp, cX7_isUsedUp, 2, some .boolean)
theorem mkX7_isUsedUp : om_V kX7_isUsedUp 1 := ⟨⟨om_mem 758 (by decide +kernel) rfl, om_mem 54 (by decide +kernel) rfl, by decide +kernel, by decide +kernel, by decide +kernel, by decide +kernel⟩, om_mem 757 (by decide +kernel) rfl, om_mem 26 (by decide +kernel) rfl⟩
abbrev kX7_lowest : om_k := (yX7_lowest, cX7_lowest, 4, some .int)
theorem mkX7_lowest : om_V kX7_lowest 1 := ⟨⟨om_mem 762 (by decide +kernel) rfl, om_mem 54 (by decide +kernel) rfl, by decide +kernel, by decide +kernel, by decide +kernel, by decide +kernel⟩, om_mem 761 (by decide +kernel) rfl, om_mem 27 (by decide +kernel) rfl⟩
abbrev kX7_newAsk : om_k := (yX7_newAsk, cX7_newAsk, 10, some .int)
theorem mkX7_newAsk : om_V kX7_newAsk 8 := ⟨⟨om_mem 767 (by decide +kernel) rfl, om_mem 54 (by decide +kernel) rfl, by decide +kernel, by decide +kernel, by decide +kernel, by decide +kernel⟩, om_mem 766 (by decide +kernel) rfl, om_mem 28 (by decide +kernel) rfl⟩
abbrev kX7_send : om_k := (yX7_send, cX7_send, 5, none)
theorem mkX7_send : om_V kX7_send 3 := ⟨⟨om_mem 771 (by decide +kernel) rfl, om_mem 54 (by decide +kernel) rfl, by decide +kernel, by decide +kernel, by decide +kernel, by decide +kernel⟩, om_mem 770 (by decide +kernel) rfl, om_mem 29 (by decide +kernel) rfl⟩
abbrev kX7_again : om_k := (yX7_again, cX7_again, 2, some .int)
theorem mkX7_again : om_V kX7_again 1 := ⟨⟨om_mem 775 (by decide +kernel) rfl, om_mem 54 (by decide +kernel) rfl, by decide +kernel, by decide +kernel, by decide +kernel, by decide +kernel⟩, om_mem 773 (by decide +kernel) rfl, om_mem 774 (by decide +kernel) rfl⟩
abbrev kX7_isAsk : om_k := (yX7_isAsk, cX7_isAsk, 2, some .boolean)
theorem mkX7_isAsk : om_V kX7_isAsk 1 := ⟨⟨om_mem 779 (by decide +kernel) rfl, om_mem 54 (by decide +kernel) rfl, by decide +kernel, by decide +kernel, by decide +kernel, by decide +kernel⟩, om_mem 778 (by decide +kernel) rfl, om_mem 30 (by decide +kernel) rfl⟩
abbrev kX7_told : om_k := (yX7_told, cX7_told, 3, some .int)
theorem mkX7_told : om_V kX7_told 2 := ⟨⟨om_mem 783 (by decide +kernel) rfl, om_mem 54 (by decide +kernel) rfl, by decide +kernel, by decide +kernel, by decide +kernel, by decide +kernel⟩, om_mem 781 (by decide +kernel) rfl, om_mem 782 (by decide +kernel) rfl⟩
abbrev kX7_answer : om_k := (yX7_answer, cX7_answer, 2, some .long)
theorem mkX7_answer : om_V kX7_answer 1 := ⟨⟨om_mem 787 (by decide +kernel) rfl, om_mem 54 (by decide +kernel) rfl, by decide +kernel, by decide +kernel, by decide +kernel, by decide +kernel⟩, om_mem 785 (by decide +kernel) rfl, om_mem 786 (by decide +kernel) rfl⟩
abbrev kX7_name : om_k := (yX7_name, cX7_name, 3, some .int)
theorem mkX7_name : om_V kX7_name 2 := ⟨⟨om_mem 793 (by decide +kernel) rfl, om_mem 54 (by decide +kernel) rfl, by decide +kernel, by decide +kernel, by decide +kernel, by decide +kernel⟩, om_mem 791 (by decide +kernel) rfl, om_mem 792 (by decide +kernel) rfl⟩
abbrev kX7_deliver : om_k := (yX7_deliver, cX7_deliver, 3, some .int)
theorem mkX7_deliver : om_V kX7_deliver 2 := ⟨⟨om_mem 799 (by decide +kernel) rfl, om_mem 54 (by decide +kernel) rfl, by decide +kernel, by decide +kernel, by decide +kernel, by decide +kernel⟩, om_mem 797 (by decide +kernel) rfl, om_mem 798 (by decide +kernel) rfl⟩
abbrev kX7_isLetter : om_k := (yX7_isLetter, cX7_isLetter, 2, some .boolean)
theorem mkX7_isLetter : om_V kX7_isLetter 1 := ⟨⟨om_mem 803 (by decide +kernel) rfl, om_mem 54 (by decide +kernel) rfl, by decide +kernel, by decide +kernel, by decide +kernel, by decide +kernel⟩, om_mem 802 (by decide +kernel) rfl, om_mem 31 (by decide +kernel) rfl⟩
abbrev kX7_brings : om_k := (yX7_brings, cX7_brings, 9, none)
theorem mkX7_brings : om_V kX7_brings 2 := ⟨⟨om_mem 807 (by decide +kernel) rfl, om_mem 54 (by decide +kernel) rfl, by decide +kernel, by decide +kernel, by decide +kernel, by decide +kernel⟩, om_mem 806 (by decide +kernel) rfl, om_mem 32 (by decide +kernel) rfl⟩
abbrev kX7_removeLetter : om_k := (yX7_removeLetter, cX7_removeLetter, 3, none)
theorem mkX7_removeLetter : om_V kX7_removeLetter 1 := ⟨⟨om_mem 812 (by decide +kernel) rfl, om_mem 54 (by decide +kernel) rfl, by decide +kernel, by decide +kernel, by decide +kernel, by decide +kernel⟩, om_mem 811 (by decide +kernel) rfl, om_mem 33 (by decide +kernel) rfl⟩
abbrev kX7_comes : om_k := (yX7_comes, cX7_comes, 10, none)
theorem mkX7_comes : om_V kX7_comes 6 := ⟨⟨om_mem 816 (by decide +kernel) rfl, om_mem 54 (by decide +kernel) rfl, by decide +kernel, by decide +kernel, by decide +kernel, by decide +kernel⟩, om_mem 815 (by decide +kernel) rfl, om_mem 34 (by decide +kernel) rfl⟩
abbrev kX7_work : om_k := (yX7_work, cX7_work, 9, none)
theorem mkX7_work : om_V kX7_work 4 := ⟨⟨om_mem 820 (by decide +kernel) rfl, om_mem 54 (by decide +kernel) rfl, by decide +kernel, by decide +kernel, by decide +kernel, by decide +kernel⟩, om_mem 819 (by decide +kernel) rfl, om_mem 35 (by decide +kernel) rfl⟩
abbrev kX7_forget : om_k := (yX7_forget, cX7_forget, 5, some .int)
theorem mkX7_forget : om_V kX7_forget 2 := ⟨⟨om_mem 825 (by decide +kernel) rfl, om_mem 54 (by decide +kernel) rfl, by decide +kernel, by decide +kernel, by decide +kernel, by decide +kernel⟩, om_mem 824 (by decide +kernel) rfl, om_mem 36 (by decide +kernel) rfl⟩
abbrev kX7_findRecord : om_k := (yX7_findRecord, cX7_findRecord, 4, some .int)
theorem mkX7_findRecord : om_V kX7_findRecord 2 := ⟨⟨om_mem 829 (by decide +kernel) rfl, om_mem 54 (by decide +kernel) rfl, by decide +kernel, by decide +kernel, by decide +kernel, by decide +kernel⟩, om_mem 828 (by decide +kernel) rfl, om_mem 37 (by decide +kernel) rfl⟩
abbrev kX7_cancel : om_k := (yX7_cancel, cX7_cancel, 7, none)
theorem mkX7_cancel : om_V kX7_cancel 2 := ⟨⟨om_mem 834 (by decide +kernel) rfl, om_mem 54 (by decide +kernel) rfl, by decide +kernel, by decide +kernel, by decide +kernel, by decide +kernel⟩, om_mem 833 (by decide +kernel) rfl, om_mem 38 (by decide +kernel) rfl⟩
abbrev kX7_putRecord : om_k := (yX7_putRecord, cX7_putRecord, 8, none)
theorem mkX7_putRecord : om_V kX7_putRecord 5 := ⟨⟨om_mem 838 (by decide +kernel) rfl, om_mem 54 (by decide +kernel) rfl, by decide +kernel, by decide +kernel, by decide +kernel, by decide +kernel⟩, om_mem 837 (by decide +kernel) rfl, om_mem 39 (by decide +kernel) rfl⟩
abbrev kX7_done : om_k := (yX7_done, cX7_done, 5, none)
theorem mkX7_done : om_V kX7_done 3 := ⟨⟨om_mem 842 (by decide +kernel) rfl, om_mem 54 (by decide +kernel) rfl, by decide +kernel, by decide +kernel, by decide +kernel, by decide +kernel⟩, om_mem 841 (by decide +kernel) rfl, om_mem 40 (by decide +kernel) rfl⟩
abbrev kX7_change : om_k := (yX7_change, cX7_change, 11, none)
theorem mkX7_change : om_V kX7_change 4 := ⟨⟨om_mem 846 (by decide +kernel) rfl, om_mem 54 (by decide +kernel) rfl, by decide +kernel, by decide +kernel, by decide +kernel, by decide +kernel⟩, om_mem 845 (by decide +kernel) rfl, om_mem 41 (by decide +kernel) rfl⟩
abbrev kX7_mayBe : om_k := (yX7_mayBe, cX7_mayBe, 3, some .boolean)
theorem mkX7_mayBe : om_V kX7_mayBe 1 := ⟨⟨om_mem 850 (by decide +kernel) rfl, om_mem 54 (by decide +kernel) rfl, by decide +kernel, by decide +kernel, by decide +kernel, by decide +kernel⟩, om_mem 849 (by decide +kernel) rfl, om_mem 42 (by decide +kernel) rfl⟩
abbrev kX7_through : om_k := (yX7_through, cX7_through, 7, none)
theorem mkX7_through : om_V kX7_through 3 := ⟨⟨om_mem 856 (by decide +kernel) rfl, om_mem 54 (by decide +kernel) rfl, by decide +kernel, by decide +kernel, by decide +kernel, by decide +kernel⟩, om_mem 855 (by decide +kernel) rfl, om_mem 43 (by decide +kernel) rfl⟩
abbrev kX7_lose : om_k := (yX7_lose, cX7_lose, 2, some .int)
theorem mkX7_lose : om_V kX7_lose 1 := ⟨⟨om_mem 860 (by decide +kernel) rfl, om_mem 54 (by decide +kernel) rfl, by decide +kernel, by decide +kernel, by decide +kernel, by decide +kernel⟩, om_mem 858 (by decide +kernel) rfl, om_mem 859 (by decide +kernel) rfl⟩
abbrev kX7_twice : om_k := (yX7_twice, cX7_twice, 2, some .int)
theorem mkX7_twice : om_V kX7_twice 1 := ⟨⟨om_mem 864 (by decide +kernel) rfl, om_mem 54 (by decide +kernel) rfl, by decide +kernel, by decide +kernel, by decide +kernel, by decide +kernel⟩, om_mem 862 (by decide +kernel) rfl, om_mem 863 (by decide +kernel) rfl⟩
abbrev kX7_bend : om_k := (yX7_bend, cX7_bend, 3, some .int)
theorem mkX7_bend : om_V kX7_bend 1 := ⟨⟨om_mem 868 (by decide +kernel) rfl, om_mem 54 (by decide +kernel) rfl, by decide +kernel, by decide +kernel, by decide +kernel, by decide +kernel⟩, om_mem 866 (by decide +kernel) rfl, om_mem 867 (by decide +kernel) rfl⟩
abbrev kX7_letter : om_k := (yX7_letter, cX7_letter, 3, some .int)
theorem mkX7_letter : om_V kX7_letter 2 := ⟨⟨om_mem 872 (by decide +kernel) rfl, om_mem 54 (by decide +kernel) rfl, by decide +kernel, by decide +kernel, by decide +kernel, by decide +kernel⟩, om_mem 870 (by decide +kernel) rfl, om_mem 871 (by decide +kernel) rfl⟩
abbrev kX7_flow : om_k := (yX7_flow, cX7_flow, 3, some .int)
theorem mkX7_flow : om_V kX7_flow 1 := ⟨⟨om_mem 876 (by decide +kernel) rfl, om_mem 54 (by decide +kernel) rfl, by decide +kernel, by decide +kernel, by decide +kernel, by decide +kernel⟩, om_mem 874 (by decide +kernel) rfl, om_mem 875 (by decide +kernel) rfl⟩
abbrev kX7_fall : om_k := (yX7_fall, cX7_fall, 2, some .int)
theorem mkX7_fall : om_V kX7_fall 1 := ⟨⟨om_mem 881 (by decide +kernel) rfl, om_mem 54 (by decide +kernel) rfl, by decide +kernel, by decide +kernel, by decide +kernel, by decide +kernel⟩, om_mem 879 (by decide +kernel) rfl, om_mem 880 (by decide +kernel) rfl⟩
abbrev kX7_rise : om_k := (yX7_rise, cX7_rise, 3, some .int)
theorem mkX7_rise : om_V kX7_rise 1 := ⟨⟨om_mem 885 (by decide +kernel) rfl, om_mem 54 (by decide +kernel) rfl, by decide +kernel, by decide +kernel, by decide +kernel, by decide +kernel⟩, om_mem 883 (by decide +kernel) rfl, om_mem 884 (by decide +kernel) rfl⟩
abbrev kX7_account : om_k := (yX7_account, cX7_account, 3, some .long)
theorem mkX7_account : om_V kX7_account 2 := ⟨⟨om_mem 889 (by decide +kernel) rfl, om_mem 54 (by decide +kernel) rfl, by decide +kernel, by decide +kernel, by decide +kernel, by decide +kernel⟩, om_mem 887 (by decide +kernel) rfl, om_mem 888 (by decide +kernel) rfl⟩
abbrev kX7_isServer : om_k := (yX7_isServer, cX7_isServer, 1, some .boolean)
theorem mkX7_isServer : om_Sx kX7_isServer 1 := ⟨⟨om_mem 892 (by decide +kernel) rfl, om_mem 54 (by decide +kernel) rfl, by decide +kernel, by decide +kernel, by decide +kernel, by decide +kernel⟩, om_mem 891 (by decide +kernel) rfl⟩
abbrev kX7_kept : om_k := (yX7_kept, cX7_kept, 5, some .int)
theorem mkX7_kept : om_V kX7_kept 3 := ⟨⟨om_mem 896 (by decide +kernel) rfl, om_mem 54 (by decide +kernel) rfl, by decide +kernel, by decide +kernel, by decide +kernel, by decide +kernel⟩, om_mem 894 (by decide +kernel) rfl, om_mem 895 (by decide +kernel) rfl⟩
abbrev kX7_recordsOf : om_k := (yX7_recordsOf, cX7_recordsOf, 4, some .int)
theorem mkX7_recordsOf : om_V kX7_recordsOf 1 := ⟨⟨om_mem 900 (by decide +kernel) rfl, om_mem 54 (by decide +kernel) rfl, by decide +kernel, by decide +kernel, by decide +kernel, by decide +kernel⟩, om_mem 899 (by decide +kernel) rfl, om_mem 44 (by decide +kernel) rfl⟩
abbrev kX7_record : om_k := (yX7_record, cX7_record, 5, some .int)
theorem mkX7_record : om_V kX7_record 3 := ⟨⟨om_mem 904 (by decide +kernel) rfl, om_mem 54 (by decide +kernel) rfl, by decide +kernel, by decide +kernel, by decide +kernel, by decide +kernel⟩, om_mem 902 (by decide +kernel) rfl, om_mem 903 (by decide +kernel) rfl⟩
abbrev kX7_leave : om_k := (yX7_leave, cX7_leave, 6, some .int)
theorem mkX7_leave : om_V kX7_leave 2 := ⟨⟨om_mem 908 (by decide +kernel) rfl, om_mem 54 (by decide +kernel) rfl, by decide +kernel, by decide +kernel, by decide +kernel, by decide +kernel⟩, om_mem 906 (by decide +kernel) rfl, om_mem 907 (by decide +kernel) rfl⟩
abbrev kX7_times : om_k := (yX7_times, cX7_times, 2, some .int)
theorem mkX7_times : om_V kX7_times 1 := ⟨⟨om_mem 912 (by decide +kernel) rfl, om_mem 54 (by decide +kernel) rfl, by decide +kernel, by decide +kernel, by decide +kernel, by decide +kernel⟩, om_mem 910 (by decide +kernel) rfl, om_mem 911 (by decide +kernel) rfl⟩
abbrev kX7_audit : om_k := (yX7_audit, cX7_audit, 5, some .long)
theorem mkX7_audit : om_V kX7_audit 1 := ⟨⟨om_mem 916 (by decide +kernel) rfl, om_mem 54 (by decide +kernel) rfl, by decide +kernel, by decide +kernel, by decide +kernel, by decide +kernel⟩, om_mem 914 (by decide +kernel) rfl, om_mem 915 (by decide +kernel) rfl⟩
abbrev kX7_witness : om_k := (yX7_witness, cX7_witness, 2, some .long)
theorem mkX7_witness : om_V kX7_witness 1 := ⟨⟨om_mem 920 (by decide +kernel) rfl, om_mem 54 (by decide +kernel) rfl, by decide +kernel, by decide +kernel, by decide +kernel, by decide +kernel⟩, om_mem 918 (by decide +kernel) rfl, om_mem 919 (by decide +kernel) rfl⟩
abbrev kX7_witnessOf : om_k := (yX7_witnessOf, cX7_witnessOf, 4, some .long)
theorem mkX7_witnessOf : om_V kX7_witnessOf 1 := ⟨⟨om_mem 924 (by decide +kernel) rfl, om_mem 54 (by decide +kernel) rfl, by decide +kernel, by decide +kernel, by decide +kernel, by decide +kernel⟩, om_mem 923 (by decide +kernel) rfl, om_mem 45 (by decide +kernel) rfl⟩
abbrev kX7_check : om_k := (yX7_check, cX7_check, 4, some .int)
theorem mkX7_check : om_V kX7_check 2 := ⟨⟨om_mem 930 (by decide +kernel) rfl, om_mem 54 (by decide +kernel) rfl, by decide +kernel, by decide +kernel, by decide +kernel, by decide +kernel⟩, om_mem 928 (by decide +kernel) rfl, om_mem 929 (by decide +kernel) rfl⟩
abbrev kX7_count : om_k := (yX7_count, cX7_count, 4, some .int)
theorem mkX7_count : om_V kX7_count 1 := ⟨⟨om_mem 934 (by decide +kernel) rfl, om_mem 54 (by decide +kernel) rfl, by decide +kernel, by decide +kernel, by decide +kernel, by decide +kernel⟩, om_mem 932 (by decide +kernel) rfl, om_mem 933 (by decide +kernel) rfl⟩
theorem ini_RL : Cond.initialized RL ∈ om_tb := om_mem 46 (by decide +kernel) rfl
theorem ini_RX6 : Cond.initialized RX6 ∈ om_tb := om_mem 47 (by decide +kernel) rfl
theorem ini_RX4 : Cond.initialized RX4 ∈ om_tb := om_mem 48 (by decide +kernel) rfl
theorem ini_RX2 : Cond.initialized RX2 ∈ om_tb := om_mem 49 (by decide +kernel) rfl
theorem ini_RJ9 : Cond.initialized RJ9 ∈ om_tb := om_mem 50 (by decide +kernel) rfl
theorem ini_RX1 : Cond.initialized RX1 ∈ om_tb := om_mem 51 (by decide +kernel) rfl
theorem ini_RX5 : Cond.initialized RX5 ∈ om_tb := om_mem 52 (by decide +kernel) rfl
theorem ini_RX3 : Cond.initialized RX3 ∈ om_tb := om_mem 53 (by decide +kernel) rfl
theorem ini_RX7 : Cond.initialized RX7 ∈ om_tb := om_mem 54 (by decide +kernel) rfl
theorem ini_RX0 : Cond.initialized RX0 ∈ om_tb := om_mem 55 (by decide +kernel) rfl
theorem cl_L_7 : Cond.classLink RL 7 RX6 ∈ om_tb := om_mem 56 (by decide +kernel) rfl
theorem ins_RX6 : Cond.instantiable RX6 7 ∈ om_tb := om_mem 57 (by decide +kernel) rfl
theorem ml_L_15 : Cond.methodLink RL 15 yX6_init ∈ om_tb := om_mem 58 (by decide +kernel) rfl
theorem ml_X6_1 : Cond.methodLink RX6 1 Lib.objectInit ∈ om_tb := om_mem 61 (by decide +kernel) rfl
theorem cl_X6_9 : Cond.classLink RX6 9 RX1 ∈ om_tb := om_mem 64 (by decide +kernel) rfl
theorem aro_RX1 : Cond.arrayOver (.object RX1) ∈ lw_tbl := List.mem_of_getElem? (i := 65) (by decide +kernel)
theorem cl_X6_15 : Cond.classLink RX6 15 RX5 ∈ om_tb := om_mem 66 (by decide +kernel) rfl
theorem aro_RX5 : Cond.arrayOver (.object RX5) ∈ lw_tbl := List.mem_of_getElem? (i := 67) (by decide +kernel)
theorem cl_X6_21 : Cond.classLink RX6 21 RX0 ∈ om_tb := om_mem 68 (by decide +kernel) rfl
theorem aro_RX0 : Cond.arrayOver (.object RX0) ∈ lw_tbl := List.mem_of_getElem? (i := 69) (by decide +kernel)
theorem cl_X6_27 : Cond.classLink RX6 27 RX4 ∈ om_tb := om_mem 70 (by decide +kernel) rfl
theorem ins_RX4 : Cond.instantiable RX4 5 ∈ om_tb := om_mem 71 (by decide +kernel) rfl
theorem ml_X6_29 : Cond.methodLink RX6 29 yX4_init ∈ om_tb := om_mem 72 (by decide +kernel) rfl
theorem ml_X4_3 : Cond.methodLink RX4 3 Lib.objectInit ∈ om_tb := om_mem 75 (by decide +kernel) rfl
theorem cl_X4_9 : Cond.classLink RX4 9 RX2 ∈ om_tb := om_mem 76 (by decide +kernel) rfl
theorem aro_RX2 : Cond.arrayOver (.object RX2) ∈ lw_tbl := List.mem_of_getElem? (i := 77) (by decide +kernel)
theorem ins_RX2 : Cond.instantiable RX2 6 ∈ om_tb := om_mem 78 (by decide +kernel) rfl
theorem ml_X2_1 : Cond.methodLink RX2 1 Lib.objectInit ∈ om_tb := om_mem 82 (by decide +kernel) rfl
theorem ml_X6_34 : Cond.methodLink RX6 34 Lib.Math.min.name ∈ om_tb := om_mem 126 (by decide +kernel) rfl
theorem ml_X6_40 : Cond.methodLink RX6 40 Lib.Math.max.name ∈ om_tb := om_mem 129 (by decide +kernel) rfl
theorem ins_RX1 : Cond.instantiable RX1 6 ∈ om_tb := om_mem 132 (by decide +kernel) rfl
theorem ml_X6_47 : Cond.methodLink RX6 47 yX1_init ∈ om_tb := om_mem 133 (by decide +kernel) rfl
theorem ml_X1_3 : Cond.methodLink RX1 3 Lib.objectInit ∈ om_tb := om_mem 136 (by decide +kernel) rfl
theorem cl_X1_25 : Cond.classLink RX1 25 RX0 ∈ om_tb := om_mem 137 (by decide +kernel) rfl
theorem ins_RX5 : Cond.instantiable RX5 2 ∈ om_tb := om_mem 161 (by decide +kernel) rfl
theorem ml_X6_50 : Cond.methodLink RX6 50 yX5_init ∈ om_tb := om_mem 162 (by decide +kernel) rfl
theorem ml_X5_3 : Cond.methodLink RX5 3 Lib.objectInit ∈ om_tb := om_mem 165 (by decide +kernel) rfl
theorem cl_X5_15 : Cond.classLink RX5 15 RX3 ∈ om_tb := om_mem 166 (by decide +kernel) rfl
theorem aro_RX3 : Cond.arrayOver (.object RX3) ∈ lw_tbl := List.mem_of_getElem? (i := 167) (by decide +kernel)
theorem ins_RX3 : Cond.instantiable RX3 6 ∈ om_tb := om_mem 168 (by decide +kernel) rfl
theorem ml_X5_21 : Cond.methodLink RX5 21 yX3_init ∈ om_tb := om_mem 169 (by decide +kernel) rfl
theorem ml_X3_3 : Cond.methodLink RX3 3 Lib.objectInit ∈ om_tb := om_mem 172 (by decide +kernel) rfl
theorem arc_long : Cond.arrayClass .long ∈ om_tb := om_mem 195 (by decide +kernel) rfl
theorem arc_int : Cond.arrayClass .int ∈ om_tb := om_mem 196 (by decide +kernel) rfl
theorem ml_L_21 : Cond.methodLink RL 21 yX6_ask ∈ om_tb := om_mem 226 (by decide +kernel) rfl
theorem ml_X6_51 : Cond.methodLink RX6 51 yX6_serverOf ∈ om_tb := om_mem 230 (by decide +kernel) rfl
theorem lc_X6_55 : Cond.constant RX6 55 (-2000001) ∈ om_tb := om_mem 234 (by decide +kernel) rfl
theorem ml_X6_56 : Cond.methodLink RX6 56 yX6_isAccount ∈ om_tb := om_mem 235 (by decide +kernel) rfl
theorem ml_X6_60 : Cond.methodLink RX6 60 yX6_isAmount ∈ om_tb := om_mem 238 (by decide +kernel) rfl
theorem lc_X6_247 : Cond.constant RX6 247 (1000000) ∈ om_tb := om_mem 241 (by decide +kernel) rfl
theorem lc_X6_248 : Cond.constant RX6 248 (-1000000) ∈ om_tb := om_mem 242 (by decide +kernel) rfl
theorem ml_X6_64 : Cond.methodLink RX6 64 yX6_endOf ∈ om_tb := om_mem 243 (by decide +kernel) rfl
theorem lc_X6_72 : Cond.constant RX6 72 (-2000002) ∈ om_tb := om_mem 247 (by decide +kernel) rfl
theorem ml_X6_73 : Cond.methodLink RX6 73 yX6_newAsk ∈ om_tb := om_mem 248 (by decide +kernel) rfl
theorem ml_X6_133 : Cond.methodLink RX6 133 yX1_lowestOpen ∈ om_tb := om_mem 252 (by decide +kernel) rfl
theorem ml_X1_34 : Cond.methodLink RX1 34 yX1_isOpen ∈ om_tb := om_mem 256 (by decide +kernel) rfl
theorem ins_RX0 : Cond.instantiable RX0 15 ∈ om_tb := om_mem 259 (by decide +kernel) rfl
theorem ml_X6_249 : Cond.methodLink RX6 249 yX0_init ∈ om_tb := om_mem 260 (by decide +kernel) rfl
theorem ml_X0_3 : Cond.methodLink RX0 3 Lib.objectInit ∈ om_tb := om_mem 263 (by decide +kernel) rfl
theorem ml_X6_264 : Cond.methodLink RX6 264 yX1_keep ∈ om_tb := om_mem 319 (by decide +kernel) rfl
theorem lc_X6_77 : Cond.constant RX6 77 (-2000003) ∈ om_tb := om_mem 323 (by decide +kernel) rfl
theorem ml_X6_78 : Cond.methodLink RX6 78 yX6_sendAsk ∈ om_tb := om_mem 324 (by decide +kernel) rfl
theorem ml_X6_154 : Cond.methodLink RX6 154 yX4_fresh ∈ om_tb := om_mem 328 (by decide +kernel) rfl
theorem ml_X4_26 : Cond.methodLink RX4 26 yX4_isFull ∈ om_tb := om_mem 332 (by decide +kernel) rfl
theorem ml_X4_22 : Cond.methodLink RX4 22 yX4_slot ∈ om_tb := om_mem 336 (by decide +kernel) rfl
theorem ml_X6_268 : Cond.methodLink RX6 268 yX2_asks ∈ om_tb := om_mem 340 (by decide +kernel) rfl
theorem ml_L_26 : Cond.methodLink RL 26 yX6_again ∈ om_tb := om_mem 344 (by decide +kernel) rfl
theorem ml_X6_85 : Cond.methodLink RX6 85 yX6_askOf ∈ om_tb := om_mem 348 (by decide +kernel) rfl
theorem ml_X6_95 : Cond.methodLink RX6 95 yX4_isFull ∈ om_tb := om_mem 352 (by decide +kernel) rfl
theorem ml_L_31 : Cond.methodLink RL 31 yX6_told ∈ om_tb := om_mem 353 (by decide +kernel) rfl
theorem ml_X6_118 : Cond.methodLink RX6 118 yX6_idOf ∈ om_tb := om_mem 357 (by decide +kernel) rfl
theorem ml_L_36 : Cond.methodLink RL 36 yX6_answer ∈ om_tb := om_mem 360 (by decide +kernel) rfl
theorem ll_X6_125 : Cond.constantLong RX6 125 (-2000001) ∈ om_tb := om_mem 364 (by decide +kernel) rfl
theorem ll_X6_131 : Cond.constantLong RX6 131 (-2000002) ∈ om_tb := om_mem 365 (by decide +kernel) rfl
theorem ml_L_41 : Cond.methodLink RL 41 yX6_name ∈ om_tb := om_mem 366 (by decide +kernel) rfl
theorem ml_L_45 : Cond.methodLink RL 45 yX6_deliver ∈ om_tb := om_mem 370 (by decide +kernel) rfl
theorem ml_X6_141 : Cond.methodLink RX6 141 yX4_at ∈ om_tb := om_mem 374 (by decide +kernel) rfl
theorem ml_X6_145 : Cond.methodLink RX6 145 yX6_come ∈ om_tb := om_mem 378 (by decide +kernel) rfl
theorem ml_X6_148 : Cond.methodLink RX6 148 yX4_take ∈ om_tb := om_mem 382 (by decide +kernel) rfl
theorem ml_X4_33 : Cond.methodLink RX4 33 yX4_at ∈ om_tb := om_mem 386 (by decide +kernel) rfl
theorem ml_X6_278 : Cond.methodLink RX6 278 yX6_serve ∈ om_tb := om_mem 387 (by decide +kernel) rfl
theorem ml_X6_191 : Cond.methodLink RX6 191 yX6_memoryOf ∈ om_tb := om_mem 391 (by decide +kernel) rfl
theorem ml_X6_244 : Cond.methodLink RX6 244 yX5_memoryOf ∈ om_tb := om_mem 395 (by decide +kernel) rfl
theorem ml_X6_294 : Cond.methodLink RX6 294 yX6_sendOver ∈ om_tb := om_mem 399 (by decide +kernel) rfl
theorem ml_X6_275 : Cond.methodLink RX6 275 yX2_refuses ∈ om_tb := om_mem 403 (by decide +kernel) rfl
theorem ml_X2_35 : Cond.methodLink RX2 35 yX2_replies ∈ om_tb := om_mem 407 (by decide +kernel) rfl
theorem ml_X2_31 : Cond.methodLink RX2 31 yX2_asks ∈ om_tb := om_mem 411 (by decide +kernel) rfl
theorem ml_X6_211 : Cond.methodLink RX6 211 yX3_beginLife ∈ om_tb := om_mem 412 (by decide +kernel) rfl
theorem ml_X3_39 : Cond.methodLink RX3 39 yX3_forget ∈ om_tb := om_mem 416 (by decide +kernel) rfl
theorem ml_X6_297 : Cond.methodLink RX6 297 yX3_raiseLow ∈ om_tb := om_mem 420 (by decide +kernel) rfl
theorem ml_X3_33 : Cond.methodLink RX3 33 Lib.Math.min.name ∈ om_tb := om_mem 424 (by decide +kernel) rfl
theorem ml_X6_204 : Cond.methodLink RX6 204 yX3_stateOf ∈ om_tb := om_mem 425 (by decide +kernel) rfl
theorem ml_X3_26 : Cond.methodLink RX3 26 yX3_isWithin ∈ om_tb := om_mem 429 (by decide +kernel) rfl
theorem ml_X6_300 : Cond.methodLink RX6 300 yX6_act ∈ om_tb := om_mem 433 (by decide +kernel) rfl
theorem ml_X6_187 : Cond.methodLink RX6 187 yX5_has ∈ om_tb := om_mem 437 (by decide +kernel) rfl
theorem ml_X6_310 : Cond.methodLink RX6 310 yX6_sendAnswer ∈ om_tb := om_mem 441 (by decide +kernel) rfl
theorem ml_X6_271 : Cond.methodLink RX6 271 yX2_replies ∈ om_tb := om_mem 445 (by decide +kernel) rfl
theorem ml_X6_314 : Cond.methodLink RX6 314 yX6_beginFar ∈ om_tb := om_mem 446 (by decide +kernel) rfl
theorem ml_X6_335 : Cond.methodLink RX6 335 yX5_lets ∈ om_tb := om_mem 450 (by decide +kernel) rfl
theorem ml_X5_24 : Cond.methodLink RX5 24 yX5_has ∈ om_tb := om_mem 454 (by decide +kernel) rfl
theorem ll_X5_28 : Cond.constantLong RX5 28 (1000000000000) ∈ om_tb := om_mem 455 (by decide +kernel) rfl
theorem ml_X6_339 : Cond.methodLink RX6 339 yX5_change ∈ om_tb := om_mem 456 (by decide +kernel) rfl
theorem ml_X6_331 : Cond.methodLink RX6 331 yX3_write ∈ om_tb := om_mem 460 (by decide +kernel) rfl
theorem ll_X6_318 : Cond.constantLong RX6 318 (-1) ∈ om_tb := om_mem 464 (by decide +kernel) rfl
theorem ml_X6_320 : Cond.methodLink RX6 320 yX6_add ∈ om_tb := om_mem 465 (by decide +kernel) rfl
theorem ml_X6_324 : Cond.methodLink RX6 324 yX6_move ∈ om_tb := om_mem 469 (by decide +kernel) rfl
theorem ml_X6_327 : Cond.methodLink RX6 327 yX6_cancel ∈ om_tb := om_mem 473 (by decide +kernel) rfl
theorem ll_X6_343 : Cond.constantLong RX6 343 (2) ∈ om_tb := om_mem 477 (by decide +kernel) rfl
theorem ml_X6_345 : Cond.methodLink RX6 345 yX3_isWithin ∈ om_tb := om_mem 478 (by decide +kernel) rfl
theorem ll_X6_348 : Cond.constantLong RX6 348 (3) ∈ om_tb := om_mem 479 (by decide +kernel) rfl
theorem ll_X6_350 : Cond.constantLong RX6 350 (-2) ∈ om_tb := om_mem 480 (by decide +kernel) rfl
theorem ml_X6_304 : Cond.methodLink RX6 304 yX6_remind ∈ om_tb := om_mem 481 (by decide +kernel) rfl
theorem ml_X6_307 : Cond.methodLink RX6 307 yX3_answerOf ∈ om_tb := om_mem 485 (by decide +kernel) rfl
theorem ml_X6_282 : Cond.methodLink RX6 282 yX6_hear ∈ om_tb := om_mem 489 (by decide +kernel) rfl
theorem ml_X6_290 : Cond.methodLink RX6 290 yX0_close ∈ om_tb := om_mem 493 (by decide +kernel) rfl
theorem ml_X6_286 : Cond.methodLink RX6 286 yX6_finishFar ∈ om_tb := om_mem 497 (by decide +kernel) rfl
theorem ml_X6_179 : Cond.methodLink RX6 179 yX6_bringDown ∈ om_tb := om_mem 501 (by decide +kernel) rfl
theorem ml_L_49 : Cond.methodLink RL 49 yX6_lose ∈ om_tb := om_mem 505 (by decide +kernel) rfl
theorem ml_L_53 : Cond.methodLink RL 53 yX6_twice ∈ om_tb := om_mem 509 (by decide +kernel) rfl
theorem ml_X6_158 : Cond.methodLink RX6 158 yX2_become ∈ om_tb := om_mem 513 (by decide +kernel) rfl
theorem ml_L_57 : Cond.methodLink RL 57 yX6_bend ∈ om_tb := om_mem 517 (by decide +kernel) rfl
theorem ml_L_61 : Cond.methodLink RL 61 yX6_letter ∈ om_tb := om_mem 521 (by decide +kernel) rfl
theorem ml_L_65 : Cond.methodLink RL 65 yX6_flow ∈ om_tb := om_mem 525 (by decide +kernel) rfl
theorem ml_L_69 : Cond.methodLink RL 69 yX6_fall ∈ om_tb := om_mem 529 (by decide +kernel) rfl
theorem ml_L_73 : Cond.methodLink RL 73 yX6_rise ∈ om_tb := om_mem 533 (by decide +kernel) rfl
theorem ml_X6_184 : Cond.methodLink RX6 184 yX1_beginLife ∈ om_tb := om_mem 537 (by decide +kernel) rfl
theorem ml_L_77 : Cond.methodLink RL 77 yX6_account ∈ om_tb := om_mem 541 (by decide +kernel) rfl
theorem ml_L_82 : Cond.methodLink RL 82 yX6_kept ∈ om_tb := om_mem 545 (by decide +kernel) rfl
theorem ml_L_87 : Cond.methodLink RL 87 yX6_record ∈ om_tb := om_mem 549 (by decide +kernel) rfl
theorem ml_L_91 : Cond.methodLink RL 91 yX6_leave ∈ om_tb := om_mem 553 (by decide +kernel) rfl
theorem ml_X6_208 : Cond.methodLink RX6 208 yX3_hasMidst ∈ om_tb := om_mem 557 (by decide +kernel) rfl
theorem ml_X3_46 : Cond.methodLink RX3 46 yX3_stateOf ∈ om_tb := om_mem 561 (by decide +kernel) rfl
theorem ml_L_95 : Cond.methodLink RL 95 yX6_times ∈ om_tb := om_mem 562 (by decide +kernel) rfl
theorem ml_L_99 : Cond.methodLink RL 99 yX6_audit ∈ om_tb := om_mem 566 (by decide +kernel) rfl
theorem ml_X6_216 : Cond.methodLink RX6 216 yX6_sumOfAccounts ∈ om_tb := om_mem 570 (by decide +kernel) rfl
theorem ml_X6_352 : Cond.methodLink RX6 352 yX6_account ∈ om_tb := om_mem 574 (by decide +kernel) rfl
theorem ml_X6_220 : Cond.methodLink RX6 220 yX6_sumUnderWay ∈ om_tb := om_mem 575 (by decide +kernel) rfl
theorem ml_X6_223 : Cond.methodLink RX6 223 yX6_sumOfAdds ∈ om_tb := om_mem 579 (by decide +kernel) rfl
theorem ml_L_103 : Cond.methodLink RL 103 yX6_witness ∈ om_tb := om_mem 583 (by decide +kernel) rfl
theorem ml_X6_226 : Cond.methodLink RX6 226 yX0_seal ∈ om_tb := om_mem 587 (by decide +kernel) rfl
theorem ll_X0_31 : Cond.constantLong RX0 31 (17) ∈ om_tb := om_mem 591 (by decide +kernel) rfl
theorem ll_X0_33 : Cond.constantLong RX0 33 (31) ∈ om_tb := om_mem 592 (by decide +kernel) rfl
theorem ml_L_109 : Cond.methodLink RL 109 yX6_check ∈ om_tb := om_mem 593 (by decide +kernel) rfl
theorem ml_L_114 : Cond.methodLink RL 114 yX6_count ∈ om_tb := om_mem 597 (by decide +kernel) rfl
theorem ml_X6_232 : Cond.methodLink RX6 232 yX6_openAsks ∈ om_tb := om_mem 601 (by decide +kernel) rfl
theorem ml_X6_241 : Cond.methodLink RX6 241 yX6_allRecords ∈ om_tb := om_mem 605 (by decide +kernel) rfl
theorem ml_X6_356 : Cond.methodLink RX6 356 yX6_kept ∈ om_tb := om_mem 609 (by decide +kernel) rfl
theorem ml_L_9 : Cond.methodLink RL 9 yL_cell ∈ om_tb := om_mem 610 (by decide +kernel) rfl
theorem cl_L_18 : Cond.classLink RL 18 RX7 ∈ om_tb := om_mem 613 (by decide +kernel) rfl
theorem ins_RX7 : Cond.instantiable RX7 40 ∈ om_tb := om_mem 614 (by decide +kernel) rfl
theorem ml_L_20 : Cond.methodLink RL 20 yX7_init ∈ om_tb := om_mem 615 (by decide +kernel) rfl
theorem ml_X7_1 : Cond.methodLink RX7 1 Lib.objectInit ∈ om_tb := om_mem 618 (by decide +kernel) rfl
theorem arc_boolean : Cond.arrayClass .boolean ∈ om_tb := om_mem 740 (by decide +kernel) rfl
theorem ml_L_25 : Cond.methodLink RL 25 yX7_ask ∈ om_tb := om_mem 741 (by decide +kernel) rfl
theorem ll_X7_130 : Cond.constantLong RX7 130 (5) ∈ om_tb := om_mem 745 (by decide +kernel) rfl
theorem ml_X7_109 : Cond.methodLink RX7 109 yX7_in ∈ om_tb := om_mem 746 (by decide +kernel) rfl
theorem ll_X7_132 : Cond.constantLong RX7 132 (3) ∈ om_tb := om_mem 749 (by decide +kernel) rfl
theorem ll_X7_134 : Cond.constantLong RX7 134 (4) ∈ om_tb := om_mem 750 (by decide +kernel) rfl
theorem ll_X7_136 : Cond.constantLong RX7 136 (-1000000) ∈ om_tb := om_mem 751 (by decide +kernel) rfl
theorem ll_X7_138 : Cond.constantLong RX7 138 (1000000) ∈ om_tb := om_mem 752 (by decide +kernel) rfl
theorem lc_X7_140 : Cond.constant RX7 140 (-2000001) ∈ om_tb := om_mem 753 (by decide +kernel) rfl
theorem lc_X7_141 : Cond.constant RX7 141 (-2000002) ∈ om_tb := om_mem 754 (by decide +kernel) rfl
theorem ml_X7_142 : Cond.methodLink RX7 142 yX7_isUsedUp ∈ om_tb := om_mem 755 (by decide +kernel) rfl
theorem ml_X7_113 : Cond.methodLink RX7 113 yX7_lowest ∈ om_tb := om_mem 759 (by decide +kernel) rfl
theorem lc_X7_146 : Cond.constant RX7 146 (-2000003) ∈ om_tb := om_mem 763 (by decide +kernel) rfl
theorem ml_X7_147 : Cond.methodLink RX7 147 yX7_newAsk ∈ om_tb := om_mem 764 (by decide +kernel) rfl
theorem ml_X7_151 : Cond.methodLink RX7 151 yX7_send ∈ om_tb := om_mem 768 (by decide +kernel) rfl
theorem ml_L_30 : Cond.methodLink RL 30 yX7_again ∈ om_tb := om_mem 772 (by decide +kernel) rfl
theorem ml_X7_155 : Cond.methodLink RX7 155 yX7_isAsk ∈ om_tb := om_mem 776 (by decide +kernel) rfl
theorem ml_L_35 : Cond.methodLink RL 35 yX7_told ∈ om_tb := om_mem 780 (by decide +kernel) rfl
theorem ml_L_40 : Cond.methodLink RL 40 yX7_answer ∈ om_tb := om_mem 784 (by decide +kernel) rfl
theorem ll_X7_158 : Cond.constantLong RX7 158 (-2000001) ∈ om_tb := om_mem 788 (by decide +kernel) rfl
theorem ll_X7_160 : Cond.constantLong RX7 160 (-2000002) ∈ om_tb := om_mem 789 (by decide +kernel) rfl
theorem ml_L_44 : Cond.methodLink RL 44 yX7_name ∈ om_tb := om_mem 790 (by decide +kernel) rfl
theorem ll_X7_162 : Cond.constantLong RX7 162 (9) ∈ om_tb := om_mem 794 (by decide +kernel) rfl
theorem ll_X7_164 : Cond.constantLong RX7 164 (2) ∈ om_tb := om_mem 795 (by decide +kernel) rfl
theorem ml_L_48 : Cond.methodLink RL 48 yX7_deliver ∈ om_tb := om_mem 796 (by decide +kernel) rfl
theorem ml_X7_229 : Cond.methodLink RX7 229 yX7_isLetter ∈ om_tb := om_mem 800 (by decide +kernel) rfl
theorem ml_X7_232 : Cond.methodLink RX7 232 yX7_brings ∈ om_tb := om_mem 804 (by decide +kernel) rfl
theorem ll_X7_179 : Cond.constantLong RX7 179 (-3) ∈ om_tb := om_mem 808 (by decide +kernel) rfl
theorem ml_X7_218 : Cond.methodLink RX7 218 yX7_removeLetter ∈ om_tb := om_mem 809 (by decide +kernel) rfl
theorem ml_X7_225 : Cond.methodLink RX7 225 yX7_comes ∈ om_tb := om_mem 813 (by decide +kernel) rfl
theorem ml_X7_205 : Cond.methodLink RX7 205 yX7_work ∈ om_tb := om_mem 817 (by decide +kernel) rfl
theorem lc_X7_181 : Cond.constant RX7 181 (2147483647) ∈ om_tb := om_mem 821 (by decide +kernel) rfl
theorem ml_X7_182 : Cond.methodLink RX7 182 yX7_forget ∈ om_tb := om_mem 822 (by decide +kernel) rfl
theorem ml_X7_169 : Cond.methodLink RX7 169 yX7_findRecord ∈ om_tb := om_mem 826 (by decide +kernel) rfl
theorem ll_X7_185 : Cond.constantLong RX7 185 (-2) ∈ om_tb := om_mem 830 (by decide +kernel) rfl
theorem ml_X7_187 : Cond.methodLink RX7 187 yX7_cancel ∈ om_tb := om_mem 831 (by decide +kernel) rfl
theorem ml_X7_175 : Cond.methodLink RX7 175 yX7_putRecord ∈ om_tb := om_mem 835 (by decide +kernel) rfl
theorem ml_X7_195 : Cond.methodLink RX7 195 yX7_done ∈ om_tb := om_mem 839 (by decide +kernel) rfl
theorem ml_X7_191 : Cond.methodLink RX7 191 yX7_change ∈ om_tb := om_mem 843 (by decide +kernel) rfl
theorem ml_X7_199 : Cond.methodLink RX7 199 yX7_mayBe ∈ om_tb := om_mem 847 (by decide +kernel) rfl
theorem ll_X7_173 : Cond.constantLong RX7 173 (1000000000000) ∈ om_tb := om_mem 851 (by decide +kernel) rfl
theorem ll_X7_203 : Cond.constantLong RX7 203 (-1) ∈ om_tb := om_mem 852 (by decide +kernel) rfl
theorem ml_X7_209 : Cond.methodLink RX7 209 yX7_through ∈ om_tb := om_mem 853 (by decide +kernel) rfl
theorem ml_L_52 : Cond.methodLink RL 52 yX7_lose ∈ om_tb := om_mem 857 (by decide +kernel) rfl
theorem ml_L_56 : Cond.methodLink RL 56 yX7_twice ∈ om_tb := om_mem 861 (by decide +kernel) rfl
theorem ml_L_60 : Cond.methodLink RL 60 yX7_bend ∈ om_tb := om_mem 865 (by decide +kernel) rfl
theorem ml_L_64 : Cond.methodLink RL 64 yX7_letter ∈ om_tb := om_mem 869 (by decide +kernel) rfl
theorem ml_L_68 : Cond.methodLink RL 68 yX7_flow ∈ om_tb := om_mem 873 (by decide +kernel) rfl
theorem ll_X7_235 : Cond.constantLong RX7 235 (200) ∈ om_tb := om_mem 877 (by decide +kernel) rfl
theorem ml_L_72 : Cond.methodLink RL 72 yX7_fall ∈ om_tb := om_mem 878 (by decide +kernel) rfl
theorem ml_L_76 : Cond.methodLink RL 76 yX7_rise ∈ om_tb := om_mem 882 (by decide +kernel) rfl
theorem ml_L_81 : Cond.methodLink RL 81 yX7_account ∈ om_tb := om_mem 886 (by decide +kernel) rfl
theorem ml_X7_237 : Cond.methodLink RX7 237 yX7_isServer ∈ om_tb := om_mem 890 (by decide +kernel) rfl
theorem ml_L_86 : Cond.methodLink RL 86 yX7_kept ∈ om_tb := om_mem 893 (by decide +kernel) rfl
theorem ml_X7_240 : Cond.methodLink RX7 240 yX7_recordsOf ∈ om_tb := om_mem 897 (by decide +kernel) rfl
theorem ml_L_90 : Cond.methodLink RL 90 yX7_record ∈ om_tb := om_mem 901 (by decide +kernel) rfl
theorem ml_L_94 : Cond.methodLink RL 94 yX7_leave ∈ om_tb := om_mem 905 (by decide +kernel) rfl
theorem ml_L_98 : Cond.methodLink RL 98 yX7_times ∈ om_tb := om_mem 909 (by decide +kernel) rfl
theorem ml_L_102 : Cond.methodLink RL 102 yX7_audit ∈ om_tb := om_mem 913 (by decide +kernel) rfl
theorem ml_L_106 : Cond.methodLink RL 106 yX7_witness ∈ om_tb := om_mem 917 (by decide +kernel) rfl
theorem ml_X7_247 : Cond.methodLink RX7 247 yX7_witnessOf ∈ om_tb := om_mem 921 (by decide +kernel) rfl
theorem ll_X7_243 : Cond.constantLong RX7 243 (17) ∈ om_tb := om_mem 925 (by decide +kernel) rfl
theorem ll_X7_245 : Cond.constantLong RX7 245 (31) ∈ om_tb := om_mem 926 (by decide +kernel) rfl
theorem ml_L_113 : Cond.methodLink RL 113 yX7_check ∈ om_tb := om_mem 927 (by decide +kernel) rfl
theorem ml_L_117 : Cond.methodLink RL 117 yX7_count ∈ om_tb := om_mem 931 (by decide +kernel) rfl
theorem ll_L_107 : Cond.constantLong RL 107 (4294967295) ∈ om_tb := om_mem 935 (by decide +kernel) rfl
theorem obj_i : Cond.instanceMethod Lib.objectInit ∈ om_tb := om_mem 62 (by decide +kernel) rfl
theorem obj_c : Cond.code Lib.objectInit ⟨#[0xb1]⟩ 1 none ∈ om_tb := om_mem 63 (by decide +kernel) rfl
theorem om_nest : Cond.methodLinkNest RX4 17 yX2_init RX6 ∈ lw_tbl := List.mem_of_getElem? (i := 79) (by decide +kernel)
end
section
/-! The heap as typed maps: K the kind of a cell (0 none; 1 .. 8 an object of vwCl's row K - 1; 16 + 8 j + q an array of kind q, j any number: its part), N lengths, I J R fields (64 * row + place), then arrays' contents by their kind, address, index. -/
abbrev Hp : Type := (Nat → Nat) × (Nat → Nat) × (Nat → Nat → Int32) × (Nat → Nat → Int64) × (Nat → Nat → Option Nat) × (Nat → Nat → Nat → Int32) × (Nat → Nat → Nat → Int64) × (Nat → Nat → Nat → Option Nat)
def hK (h : Hp) : Nat → Nat := h.1
def hN (h : Hp) : Nat → Nat := h.2.1
def hI (h : Hp) : Nat → Nat → Int32 := h.2.2.1
def hJ (h : Hp) : Nat → Nat → Int64 := h.2.2.2.1
def hR (h : Hp) : Nat → Nat → Option Nat := h.2.2.2.2.1
def aI (h : Hp) : Nat → Nat → Nat → Int32 := h.2.2.2.2.2.1
def aJ (h : Hp) : Nat → Nat → Nat → Int64 := h.2.2.2.2.2.2.1
def aR (h : Hp) : Nat → Nat → Nat → Option Nat := h.2.2.2.2.2.2.2
def up1 {α : Type} (F : Nat → α) (a : Nat) (v : α) : Nat → α := fun b => if b = a then v else F b
def up2 {α : Type} (F : Nat → Nat → α) (f a : Nat) (v : α) : Nat → Nat → α := fun g b => if g = f ∧ b = a then v else F g b
def up3 {α : Type} (F : Nat → Nat → Nat → α) (t a i : Nat) (v : α) : Nat → Nat → Nat → α := fun u b j => if u = t ∧ b = a ∧ j = i then v else F u b j
def sI (h : Hp) (f a : Nat) (v : Int32) : Hp := (h.1, h.2.1, up2 (hI h) f a v, h.2.2.2)
def sJ (h : Hp) (f a : Nat) (v : Int64) : Hp := (h.1, h.2.1, h.2.2.1, up2 (hJ h) f a v, h.2.2.2.2)
def sR (h : Hp) (f a : Nat) (v : Option Nat) : Hp := (h.1, h.2.1, h.2.2.1, h.2.2.2.1, up2 (hR h) f a v, h.2.2.2.2.2)
def tI (h : Hp) (t a i : Nat) (v : Int32) : Hp := (h.1, h.2.1, h.2.2.1, h.2.2.2.1, h.2.2.2.2.1, up3 (aI h) t a i v, h.2.2.2.2.2.2)
def tJ (h : Hp) (t a i : Nat) (v : Int64) : Hp := (h.1, h.2.1, h.2.2.1, h.2.2.2.1, h.2.2.2.2.1, h.2.2.2.2.2.1, up3 (aJ h) t a i v, h.2.2.2.2.2.2.2)
def tR (h : Hp) (t a i : Nat) (v : Option Nat) : Hp := (h.1, h.2.1, h.2.2.1, h.2.2.2.1, h.2.2.2.2.1, h.2.2.2.2.2.1, h.2.2.2.2.2.2.1, up3 (aR h) t a i v)
/-- a new object at a, of the row ci: all its fields are 0 -/
def nwO (h : Hp) (a ci : Nat) : Hp := (up1 (hK h) a (ci + 1), h.2.1, (fun g b => if b = a then 0 else hI h g b), (fun g b => if b = a then 0 else hJ h g b), (fun g b => if b = a then none else hR h g b), h.2.2.2.2.2)
/-- a new array at a, of the kind t, n long -/
def nwA (h : Hp) (a t n : Nat) : Hp := (up1 (hK h) a t, up1 (hN h) a n, h.2.2.1, h.2.2.2.1, h.2.2.2.2.1, (fun u b j => if b = a then 0 else aI h u b j), (fun u b j => if b = a then 0 else aJ h u b j), (fun u b j => if b = a then none else aR h u b j))
def fTl : List (List Nat) := [[0, 0, 0, 0, 0, 0, 0, 0, 0, 0, 0, 1, 3, 2, 2], [0, 3, 0, 0, 0, 2], [2, 3, 3, 3, 0, 1], [0, 0, 0, 0, 2, 2], [0, 0, 0, 0, 2], [2, 2], [0, 2, 2, 2, 2, 0, 0], [0, 2, 2, 2, 2, 0, 2, 2, 2, 2, 2, 2, 2, 2, 2, 2, 2, 2, 2, 2, 0, 2, 2, 2, 2, 2, 2, 2, 0, 2, 2, 2, 2, 2, 0, 0, 0, 3, 0, 3]]
def fT (ci f : Nat) : Nat := (fTl.getD ci []).getD f 0
def fV (ci : Nat) (h : Hp) (a : Nat) : Nat → Value := fun f => if fT ci f = 1 then .long (hJ h (64 * ci + f) a) else if fT ci f = 2 then va_rf (hR h (64 * ci + f) a) else .int (hI h (64 * ci + f) a)
def kOf (t : Nat) : Nat := t % 8
def aT (q : Nat) : FieldType := if q = 0 then .int else if q = 1 then .long else if q = 2 then .boolean else if q = 3 then .object RX0 else if q = 4 then .object RX1 else if q = 5 then .object RX2 else if q = 6 then .object RX3 else .object RX5
def cont (h : Hp) (t a : Nat) : (Nat → Int32) ⊕ (Nat → Int64) ⊕ (Nat → UInt32) ⊕ (Nat → UInt64) ⊕ (Nat → Option Nat) := if kOf t = 1 then .inr (.inl (aJ h t a)) else if 3 ≤ kOf t then .inr (.inr (.inr (.inr (aR h t a)))) else .inl (aI h t a)
/-- what is the same for a whole run: the launch, the tables' numbers, the array classes, the least address of ours -/
abbrev om_x : Type := Launch × va_G × (Nat → ClassId) × Nat
def om_at (x : om_x) (h : Hp) (a : Nat) (H : Heap) : Prop := if hK h a < 16 then ∃ r, vwCl[hK h a - 1]? = some r ∧ t_OB a (x.2.1.1 (hK h a - 1)) r.2.2 (x.2.1.2 (hK h a - 1)) H (fV (hK h a - 1) h a) else H[a]? = some (vp_cell (x.2.2.1 (kOf (hK h a))) (hN h a, cont h (hK h a) a))
def om_H (x : om_x) (h : Hp) (H : Heap) : Prop := ∀ a, hK h a ≠ 0 → x.2.2.2 ≤ a ∧ om_at x h a H
def om_tys (x : om_x) : List (ClassId × FieldType) := (List.range 8).map (fun q => (x.2.2.1 q, aT q))
theorem om_tys_at (x : om_x) {q : Nat} (hq : q < 8) : (om_tys x)[q]? = some (x.2.2.1 q, aT q) := by
  simp [om_tys, hq]
theorem om_at.kept {x : om_x} {h : Hp} {a : Nat} {H H1 : Heap} (hh : om_at x h a H) (hq : H1[a]? = H[a]?) : om_at x h a H1 := by
  unfold om_at at hh ⊢
  split at hh
  · rename_i hc
    rw [if_pos hc]
    obtain ⟨r, h1, h2⟩ := hh
    exact ⟨r, h1, h2.kept hq⟩
  · rename_i hc
    rw [if_neg hc]
    exact hq.trans hh
theorem om_at.lt {x : om_x} {h : Hp} {a : Nat} {H : Heap} (hh : om_at x h a H) : a < H.size := by
  unfold om_at at hh
  split at hh
  · obtain ⟨r, h1, cell, h2, -⟩ := hh
    exact (Array.getElem?_eq_some_iff.mp h2).1
  · exact (Array.getElem?_eq_some_iff.mp hh).1
/-- one cell is written: the others stay -/
theorem om_H.put {x : om_x} {h h' : Hp} {a : Nat} {H H1 : Heap} (hh : om_H x h H) (hk : hK h' = hK h) (ho : ∀ b, b ≠ a → hK h b ≠ 0 → om_at x h b H1 → om_at x h' b H1) (ha : om_at x h' a H1) (oq : ∀ q : Nat, q ≠ a → H1[q]? = H[q]?) : om_H x h' H1 := by
  intro b hb
  rw [hk] at hb
  refine ⟨(hh b hb).1, ?_⟩
  by_cases e : b = a
  · rw [e]; exact ha
  · exact ho b e hb ((hh b hb).2.kept (oq b e))
theorem om_H.obj {x : om_x} {h : Hp} {a ci : Nat} {H : Heap} (hh : om_H x h H) (hk : hK h a = ci + 1) (hc : ci < 15) : ∃ r, vwCl[ci]? = some r ∧ t_OB a (x.2.1.1 ci) r.2.2 (x.2.1.2 ci) H (fV ci h a) := by
  have h1 := (hh a (by omega)).2
  unfold om_at at h1
  rw [if_pos (by omega), hk] at h1
  exact h1
theorem om_H.arr {x : om_x} {h : Hp} {a t : Nat} {H : Heap} (hh : om_H x h H) (hk : hK h a = t) (hc : 16 ≤ t) : H[a]? = some (vp_cell (x.2.2.1 (kOf t)) (hN h a, cont h t a)) := by
  have h1 := (hh a (by omega)).2
  unfold om_at at h1
  rw [if_neg (by omega), hk] at h1
  exact h1
theorem om_H.null {x : om_x} {h : Hp} {H : Heap} (hh : om_H x h H) {a : Nat} (ha : H.size ≤ a) : hK h a = 0 := by
  rcases Nat.eq_zero_or_pos (hK h a) with e | e
  · exact e
  · have := (hh a (by omega)).2.lt
    omega
theorem om_at_of {x : om_x} {h h' : Hp} {b : Nat} {H : Heap} (hk : hK h' b = hK h b) (hn : hN h' b = hN h b) (hv : ∀ f, fV (hK h b - 1) h' b f = fV (hK h b - 1) h b f) (hc : cont h' (hK h b) b = cont h (hK h b) b) (hh : om_at x h b H) : om_at x h' b H := by
  unfold om_at at hh ⊢
  rw [hk, hn, hc]
  have e : fV (hK h b - 1) h' b = fV (hK h b - 1) h b := funext hv
  rw [e]
  exact hh
theorem up2_self {α : Type} (F : Nat → Nat → α) (f a : Nat) (v : α) : up2 F f a v f a = v := by simp [up2]
theorem up2_ne {α : Type} (F : Nat → Nat → α) {f a g b : Nat} (v : α) (h : ¬ (g = f ∧ b = a)) : up2 F f a v g b = F g b := by simp [up2, h]
theorem up3_ne {α : Type} (F : Nat → Nat → Nat → α) {t a i u b : Nat} (v : α) (h : ¬ (u = t ∧ b = a)) : up3 F t a i v u b = F u b := by
  funext j
  simp only [up3]
  rw [if_neg (fun z => h ⟨z.1, z.2.1⟩)]
theorem om_sI {x : om_x} {h : Hp} {a ci f : Nat} {v : Int32} {H H1 : Heap} (hh : om_H x h H) (hk : hK h a = ci + 1) (hc : ci < 15) (hf : fT ci f ≠ 1 ∧ fT ci f ≠ 2) (hlt : f < 64) {r : vw_C} (hr : vwCl[ci]? = some r) (hl : r.2.2 ≤ 64)
    (hn : t_OB a (x.2.1.1 ci) r.2.2 (x.2.1.2 ci) H1 (updV (fV ci h a) f (.int v))) (oq : ∀ q : Nat, q ≠ a → H1[q]? = H[q]?) : om_H x (sI h (64 * ci + f) a v) H1 := by
  refine hh.put rfl (fun b hb hb0 hbb => om_at_of (h := h) (h' := sI h (64 * ci + f) a v) rfl rfl (fun g => ?_) rfl hbb) ?_ oq
  · simp only [fV, hI, hJ, hR, sI]
    rw [up2_ne _ _ (fun z => hb z.2)]
  · have hk3 : hK (sI h (64 * ci + f) a v) a = ci + 1 := hk
    unfold om_at
    rw [hk3, if_pos (by omega), Nat.add_sub_cancel]
    refine ⟨r, hr, hn.to fun k hk2 => ?_⟩
    by_cases e : k = f
    · subst e
      simp [updV, fV, hf.1, hf.2, hI, sI, up2]
    · have e2 : ¬ (64 * ci + k = 64 * ci + f ∧ a = a) := fun z => e (by omega)
      simp only [updV, if_neg e, fV, hI, hJ, hR, sI]
      rw [up2_ne _ _ e2]
theorem om_sJ {x : om_x} {h : Hp} {a ci f : Nat} {v : Int64} {H H1 : Heap} (hh : om_H x h H) (hk : hK h a = ci + 1) (hc : ci < 15) (hf : fT ci f = 1) (hlt : f < 64) {r : vw_C} (hr : vwCl[ci]? = some r) (hl : r.2.2 ≤ 64)
    (hn : t_OB a (x.2.1.1 ci) r.2.2 (x.2.1.2 ci) H1 (updV (fV ci h a) f (.long v))) (oq : ∀ q : Nat, q ≠ a → H1[q]? = H[q]?) : om_H x (sJ h (64 * ci + f) a v) H1 := by
  refine hh.put rfl (fun b hb hb0 hbb => om_at_of (h := h) (h' := sJ h (64 * ci + f) a v) rfl rfl (fun g => ?_) rfl hbb) ?_ oq
  · simp only [fV, hI, hJ, hR, sJ]
    rw [up2_ne _ _ (fun z => hb z.2)]
  · have hk3 : hK (sJ h (64 * ci + f) a v) a = ci + 1 := hk
    unfold om_at
    rw [hk3, if_pos (by omega), Nat.add_sub_cancel]
    refine ⟨r, hr, hn.to fun k hk2 => ?_⟩
    by_cases e : k = f
    · subst e
      simp [updV, fV, hf, hJ, sJ, up2]
    · have e2 : ¬ (64 * ci + k = 64 * ci + f ∧ a = a) := fun z => e (by omega)
      simp only [updV, if_neg e, fV, hI, hJ, hR, sJ]
      rw [up2_ne _ _ e2]
theorem om_sR {x : om_x} {h : Hp} {a ci f : Nat} {v : Option Nat} {H H1 : Heap} (hh : om_H x h H) (hk : hK h a = ci + 1) (hc : ci < 15) (hf : fT ci f = 2) (hlt : f < 64) {r : vw_C} (hr : vwCl[ci]? = some r) (hl : r.2.2 ≤ 64)
    (hn : t_OB a (x.2.1.1 ci) r.2.2 (x.2.1.2 ci) H1 (updV (fV ci h a) f (va_rf v))) (oq : ∀ q : Nat, q ≠ a → H1[q]? = H[q]?) : om_H x (sR h (64 * ci + f) a v) H1 := by
  refine hh.put rfl (fun b hb hb0 hbb => om_at_of (h := h) (h' := sR h (64 * ci + f) a v) rfl rfl (fun g => ?_) rfl hbb) ?_ oq
  · simp only [fV, hI, hJ, hR, sR]
    rw [up2_ne _ _ (fun z => hb z.2)]
  · have hk3 : hK (sR h (64 * ci + f) a v) a = ci + 1 := hk
    unfold om_at
    rw [hk3, if_pos (by omega), Nat.add_sub_cancel]
    refine ⟨r, hr, hn.to fun k hk2 => ?_⟩
    by_cases e : k = f
    · subst e
      simp [updV, fV, hf, hR, sR, up2]
    · have e2 : ¬ (64 * ci + k = 64 * ci + f ∧ a = a) := fun z => e (by omega)
      simp only [updV, if_neg e, fV, hI, hJ, hR, sR]
      rw [up2_ne _ _ e2]
theorem om_tI {x : om_x} {h : Hp} {a t i : Nat} {v : Int32} {H H1 : Heap} (hh : om_H x h H) (hk : hK h a = t) (hc : 16 ≤ t) (hf : kOf t = 0 ∨ kOf t = 2)
    (hn : H1[a]? = some (arrV (x.2.2.1 (kOf t)) (hN h a) (updV (fun j => .int (aI h t a j)) i (.int v)))) (oq : ∀ q : Nat, q ≠ a → H1[q]? = H[q]?) : om_H x (tI h t a i v) H1 := by
  refine hh.put rfl (fun b hb hb0 hbb => om_at_of (h := h) (h' := tI h t a i v) rfl rfl (fun g => rfl) ?_ hbb) ?_ oq
  · simp only [cont, aI, aJ, aR, tI]
    rw [up3_ne _ _ (fun z => hb z.2)]
  · have hk3 : hK (tI h t a i v) a = t := hk
    have hn3 : hN (tI h t a i v) a = hN h a := rfl
    unfold om_at
    rw [hk3, hn3, if_neg (by omega)]
    rw [hn]
    have e : cont (tI h t a i v) t a = .inl (aI (tI h t a i v) t a) := by
      unfold cont
      rw [if_neg (by omega), if_neg (by omega)]
    rw [e, vp_cell_i]
    congr 2
    funext q
    by_cases hq : q = i
    · subst hq
      simp [updV, aI, tI, up3]
    · simp [updV, aI, tI, up3, hq]
theorem om_tJ {x : om_x} {h : Hp} {a t i : Nat} {v : Int64} {H H1 : Heap} (hh : om_H x h H) (hk : hK h a = t) (hc : 16 ≤ t) (hf : kOf t = 1)
    (hn : H1[a]? = some (arrV (x.2.2.1 (kOf t)) (hN h a) (updV (fun j => .long (aJ h t a j)) i (.long v)))) (oq : ∀ q : Nat, q ≠ a → H1[q]? = H[q]?) : om_H x (tJ h t a i v) H1 := by
  refine hh.put rfl (fun b hb hb0 hbb => om_at_of (h := h) (h' := tJ h t a i v) rfl rfl (fun g => rfl) ?_ hbb) ?_ oq
  · simp only [cont, aI, aJ, aR, tJ]
    rw [up3_ne _ _ (fun z => hb z.2)]
  · have hk3 : hK (tJ h t a i v) a = t := hk
    have hn3 : hN (tJ h t a i v) a = hN h a := rfl
    unfold om_at
    rw [hk3, hn3, if_neg (by omega)]
    rw [hn]
    have e : cont (tJ h t a i v) t a = .inr (.inl (aJ (tJ h t a i v) t a)) := by
      unfold cont
      rw [if_pos (by omega)]
    rw [e, vp_cell_l]
    congr 2
    funext q
    by_cases hq : q = i
    · subst hq
      simp [updV, aJ, tJ, up3]
    · simp [updV, aJ, tJ, up3, hq]
theorem om_tR {x : om_x} {h : Hp} {a t i : Nat} {v : Option Nat} {H H1 : Heap} (hh : om_H x h H) (hk : hK h a = t) (hc : 16 ≤ t) (hf : 3 ≤ kOf t)
    (hn : H1[a]? = some (arrV (x.2.2.1 (kOf t)) (hN h a) (updV (fun j => va_rf (aR h t a j)) i (va_rf v)))) (oq : ∀ q : Nat, q ≠ a → H1[q]? = H[q]?) : om_H x (tR h t a i v) H1 := by
  refine hh.put rfl (fun b hb hb0 hbb => om_at_of (h := h) (h' := tR h t a i v) rfl rfl (fun g => rfl) ?_ hbb) ?_ oq
  · simp only [cont, aI, aJ, aR, tR]
    rw [up3_ne _ _ (fun z => hb z.2)]
  · have hk3 : hK (tR h t a i v) a = t := hk
    have hn3 : hN (tR h t a i v) a = hN h a := rfl
    unfold om_at
    rw [hk3, hn3, if_neg (by omega)]
    rw [hn]
    have e : cont (tR h t a i v) t a = .inr (.inr (.inr (.inr (aR (tR h t a i v) t a)))) := by
      unfold cont
      rw [if_neg (by omega), if_pos hf]
    rw [e, vp_cell_q]
    congr 2
    funext q
    by_cases hq : q = i
    · subst hq
      simp [updV, aR, tR, up3]
    · simp [updV, aR, tR, up3, hq]
/-- a cell is new: the others stay -/
theorem om_H.new {x : om_x} {h h' : Hp} {a : Nat} {H H1 : Heap} (hh : om_H x h H) (ha0 : hK h a = 0) (hk : ∀ b, b ≠ a → hK h' b = hK h b) (ho : ∀ b, b ≠ a → hK h b ≠ 0 → om_at x h b H1 → om_at x h' b H1) (hba : x.2.2.2 ≤ a) (ha : om_at x h' a H1) (oq : ∀ q : Nat, q ≠ a → q < H.size → H1[q]? = H[q]?) : om_H x h' H1 := by
  intro b hb
  by_cases e : b = a
  · subst e; exact ⟨hba, ha⟩
  · rw [hk b e] at hb
    exact ⟨(hh b hb).1, ho b e hb ((hh b hb).2.kept (oq b e (hh b hb).2.lt))⟩
theorem om_nwO {x : om_x} {h : Hp} {a ci : Nat} {H H1 : Heap} (hh : om_H x h H) (ha0 : hK h a = 0) (hc : ci < 15) {r : vw_C} (hr : vwCl[ci]? = some r) (hba : x.2.2.2 ≤ a)
    (hn : t_OB a (x.2.1.1 ci) r.2.2 (x.2.1.2 ci) H1 (fun f => if fT ci f = 1 then .long 0 else if fT ci f = 2 then .null else .int 0)) (oq : ∀ q : Nat, q ≠ a → q < H.size → H1[q]? = H[q]?) : om_H x (nwO h a ci) H1 := by
  refine hh.new ha0 (fun b hb => by simp [hK, nwO, up1, hb]) (fun b hb hb0 hbb => om_at_of (h := h) (h' := nwO h a ci) (by simp [hK, nwO, up1, hb]) rfl (fun g => ?_) rfl hbb) hba ?_ oq
  · simp [fV, hI, hJ, hR, nwO, hb]
  · unfold om_at
    have hk : hK (nwO h a ci) a = ci + 1 := by simp [hK, nwO, up1]
    rw [hk, if_pos (by omega), Nat.add_sub_cancel]
    refine ⟨r, hr, hn.to fun k hk2 => ?_⟩
    simp [fV, hI, hJ, hR, nwO, va_rf]
theorem om_nwA {x : om_x} {h : Hp} {a t n : Nat} {H H1 : Heap} (hh : om_H x h H) (ha0 : hK h a = 0) (hc : 16 ≤ t) (hba : x.2.2.2 ≤ a)
    (hn : H1[a]? = some (arrV (x.2.2.1 (kOf t)) n (fun _ => if kOf t = 1 then .long 0 else if 3 ≤ kOf t then .null else .int 0))) (oq : ∀ q : Nat, q ≠ a → q < H.size → H1[q]? = H[q]?) : om_H x (nwA h a t n) H1 := by
  refine hh.new ha0 (fun b hb => by simp [hK, nwA, up1, hb]) (fun b hb hb0 hbb => om_at_of (h := h) (h' := nwA h a t n) (by simp [hK, nwA, up1, hb]) (by simp [hN, nwA, up1, hb]) (fun g => rfl) ?_ hbb) hba ?_ oq
  · simp [cont, aI, aJ, aR, nwA, hb]
  · unfold om_at
    have hk : hK (nwA h a t n) a = t := by simp [hK, nwA, up1]
    have hl : hN (nwA h a t n) a = n := by simp [hN, nwA, up1]
    rw [hk, hl, if_neg (by omega), hn]
    unfold cont
    by_cases e1 : kOf t = 1
    · simp only [if_pos e1]
      rw [vp_cell_l]
      simp [aJ, nwA]
    · by_cases e3 : 3 ≤ kOf t
      · simp only [if_neg e1, if_pos e3]
        rw [vp_cell_q]
        simp [aR, nwA, va_rf]
      · simp only [if_neg e1, if_neg e3]
        rw [vp_cell_i]
        simp [aI, nwA]
end
section
/-! J: the machine stands at pc of method k, with L among its locals, st on its stack, the typed heap h, c cells and sl slots made so far; it comes to the end that r tells. -/
def om_ext (U : State) : Prop := (va_AO RX0 U ∧ va_AO RX1 U ∧ va_AO RX2 U ∧ va_AO RX3 U ∧ va_AO RX5 U) ∧ va_Nw (.methodLinkNest RX4 17 yX2_init RX6) U
def om_W (x : om_x) (U : State) : Prop := va_K x.2.1 vwCl (om_tys x) U ∧ om_ext U
theorem om_W.moved {x : om_x} {s U : State} (hW : s.WarmedH U.vm) (hh : om_W x s) : om_W x U :=
  ⟨va_K.moved hW.alike hh.1, ⟨hh.2.1.1.moved hW.alike, hh.2.1.2.1.moved hW.alike, hh.2.1.2.2.1.moved hW.alike, hh.2.1.2.2.2.1.moved hW.alike, hh.2.1.2.2.2.2.moved hW.alike⟩, va_Nw.warmM hW hh.2.2⟩
theorem om_W.same {x : om_x} {u U : State} (e : u.vm = U.vm) (hh : om_W x u) : om_W x U :=
  have a : u.vm.Alike U.vm := by rw [e]; exact Vm.Alike.refl U.vm
  ⟨va_K.moved a hh.1, ⟨hh.2.1.1.moved a, hh.2.1.2.1.moved a, hh.2.1.2.2.1.moved a, hh.2.1.2.2.2.1.moved a, hh.2.1.2.2.2.2.moved a⟩, va_Nw.same rfl e hh.2.2⟩
def om_X (x : om_x) (k : om_k) (p : Program) (s : State) (mi : MethodId) (args : Array Value) (meth : Method) (cd : Code) : Prop :=
  p.tables.exec = Jvm.exec ∧ cd.code = k.2.1 ∧ cd.maxLocals = k.2.2.1 ∧ s.vm.findClass k.1.cls = some mi.cls ∧ (∀ w ∈ om_tb, w.before args s = true) ∧ om_W x s ∧ meth.sig.returnType = k.2.2.2 ∧ meth.locks = false ∧ meth.name = k.1.name ∧ x.2.2.2 ≤ s.heap.size
def om_A (x : om_x) : Nat → Prop := fun q => x.2.2.2 ≤ q
abbrev om_r : Type := Room × (Array Value → State → List Frame → State → Prop)
def J (x : om_x) (r : om_r) (k : om_k) (pc : Nat) (L : List (Nat × Value)) (st : List Value) (h : Hp) (c sl : Nat) : Prop :=
  ∀ (p : Program) (e : Env) (s : State) (mi : MethodId) (args : Array Value) (below : List Frame) (meth : Method) (cd : Code) (H : Heap) (locs : List Loc) (ls : Array Slot),
    om_X x k p s mi args meth cd → om_H x h H → va_S (om_A x) s.heap H locs → lv_has ls k.2.2.1 L → W p x.1 e r.1 s mi args below meth cd H locs c sl (r.2 args s below) (F0 mi pc ls st)
def lk : List (Nat × Value) → Nat → Option Value
  | [], _ => none
  | q :: L, i => if q.1 = i then some q.2 else lk L i
theorem lk_mem : ∀ {L : List (Nat × Value)} {i : Nat} {v : Value}, lk L i = some v → (i, v) ∈ L
  | [], _, _, h => by cases h
  | q :: L, i, v, h => by
    simp only [lk] at h
    split at h
    · rename_i e
      cases h
      subst e
      exact List.mem_cons_self
    · exact List.mem_cons_of_mem _ (lk_mem h)
theorem lk_at {ls : Array Slot} {nL : Nat} {L : List (Nat × Value)} (hL : lv_has ls nL L) {i : Nat} {v : Value} (h : lk L i = some v) : ls[i]? = some (.val v) := hL.2.2 (i, v) (lk_mem h)
def st1 (i : Nat) (v : Value) (L : List (Nat × Value)) : List (Nat × Value) := (i, v) :: L.filter (fun q => !(q.1 == i) && !(q.1 + 1 == i && q.2.category == 2))
def st2 (i : Nat) (v : Value) (L : List (Nat × Value)) : List (Nat × Value) := (i, v) :: L.filter (fun q => !(q.1 == i) && (!(q.1 == i + 1) && !(q.1 + 1 == i && q.2.category == 2)))
def isR (v : Value) : Prop := v = .null ∨ ∃ a, v = .ref a
theorem isR_r {a : Nat} : isR (.ref a) := Or.inr ⟨a, rfl⟩
theorem isR_n : isR .null := Or.inl rfl
theorem isR_w {w : Option Nat} : isR (va_rf w) := by cases w; exact isR_n; exact isR_r
def inx (i : Int32) (j n : Nat) : Prop := i.toNatClampNeg = j ∧ ¬ i < 0 ∧ j < n
theorem inx.vp {i : Int32} {j n : Nat} (h : inx i j n) : vp_in i n := by
  obtain ⟨rfl, h1, h2⟩ := h
  exact fun z => z.elim h1 (fun z => by omega)
theorem inx_n {j n : Nat} (h : j < n) (hn : n ≤ 2147483648) : inx (nI j) j n := ⟨nI_clamp (by omega), nI_pos (by omega), h⟩
section JR
variable {x : om_x} {r : om_r} {k : om_k} {pc : Nat} {L : List (Nat × Value)} {st : List Value} {h : Hp} {c sl : Nat}
theorem J_loc (L' : List (Nat × Value)) (hl : L'.map (fun q => lk L q.1) = L'.map (fun q => some q.2)) (kk : J x r k pc L' st h c sl) : J x r k pc L st h c sl := by
  intro p e s mi args below meth cd H locs ls X hH hS hL
  refine kk p e s mi args below meth cd H locs ls X hH hS ⟨hL.1, hL.2.1, fun q hq => ?_⟩
  obtain ⟨n, hn⟩ := List.getElem?_of_mem hq
  have h1 : (L'.map (fun q => lk L q.1))[n]? = (L'.map (fun q => some q.2))[n]? := by rw [hl]
  rw [List.getElem?_map, List.getElem?_map, hn] at h1
  exact lk_at hL (Option.some.inj h1)
theorem J_hp {h' : Hp} (e : h = h') (kk : J x r k pc L st h' c sl) : J x r k pc L st h c sl := by rw [e]; exact kk
theorem J_pc {pc' : Nat} (e : pc = pc') (kk : J x r k pc' L st h c sl) : J x r k pc L st h c sl := by rw [e]; exact kk
theorem J_st {st' : List Value} (e : st = st') (kk : J x r k pc L st' h c sl) : J x r k pc L st h c sl := by rw [e]; exact kk
theorem J_cs {c' sl' : Nat} (h1 : c ≤ c') (h2 : sl ≤ sl') (kk : J x r k pc L st h c' sl') : J x r k pc L st h c sl :=
  fun p e s mi args below meth cd H locs ls X hH hS hL => W.widen h1 h2 (kk p e s mi args below meth cd H locs ls X hH hS hL)
theorem J_iconst {n : Int} {v : Int32} (hd : decode k.2.1 pc = .ok (.iconst n, 1)) (hv : Int32.ofInt n = v) (kk : J x r k (pc + 1) L (.int v :: st) h c sl) : J x r k pc L (st) h c sl :=
  fun p e s mi args below meth cd H locs ls X hH hS hL => lv_iconst X.1 X.2.1 hd hv (kk p e s mi args below meth cd H locs ls X hH hS hL)
theorem J_bipush {n : Int} {v : Int32} (hd : decode k.2.1 pc = .ok (.bipush n, 2)) (hv : (Int8.ofInt n).toInt32 = v) (kk : J x r k (pc + 2) L (.int v :: st) h c sl) : J x r k pc L (st) h c sl :=
  fun p e s mi args below meth cd H locs ls X hH hS hL => lv_bipush X.1 X.2.1 hd hv (kk p e s mi args below meth cd H locs ls X hH hS hL)
theorem J_sipush {n : Int} {v : Int32} (hd : decode k.2.1 pc = .ok (.sipush n, 3)) (hv : (Int16.ofInt n).toInt32 = v) (kk : J x r k (pc + 3) L (.int v :: st) h c sl) : J x r k pc L (st) h c sl :=
  fun p e s mi args below meth cd H locs ls X hH hS hL => lv_sipush X.1 X.2.1 hd hv (kk p e s mi args below meth cd H locs ls X hH hS hL)
theorem J_lconst {n : Fin 2} {v : Int64} (hd : decode k.2.1 pc = .ok (.lconst n, 1)) (hv : Int64.ofNat (n : Nat) = v) (kk : J x r k (pc + 1) L (.long v :: st) h c sl) : J x r k pc L (st) h c sl :=
  fun p e s mi args below meth cd H locs ls X hH hS hL => lv_lconst X.1 X.2.1 hd hv (kk p e s mi args below meth cd H locs ls X hH hS hL)
theorem J_ldc {i : Nat} {v : Int32} (hd : decode k.2.1 pc = .ok (.ldc i, 2)) (hc : Cond.constant k.1.cls i v ∈ om_tb) (kk : J x r k (pc + 2) L (.int v :: st) h c sl) : J x r k pc L st h c sl :=
  fun p e s mi args below meth cd H locs ls X hH hS hL => lv_ldc X.1 X.2.1 X.2.2.2.1 (X.2.2.2.2.1 _ hc) hd (kk p e s mi args below meth cd H locs ls X hH hS hL)
theorem J_ldc2 {i : Nat} {v : Int64} (hd : decode k.2.1 pc = .ok (.ldc2_w i, 3)) (hc : Cond.constantLong k.1.cls i v ∈ om_tb) (kk : J x r k (pc + 3) L (.long v :: st) h c sl) : J x r k pc L st h c sl :=
  fun p e s mi args below meth cd H locs ls X hH hS hL => lv_ldc2 X.1 X.2.1 X.2.2.2.1 (X.2.2.2.2.1 _ hc) hd (kk p e s mi args below meth cd H locs ls X hH hS hL)
theorem J_iload_n {n : Fin 4} {i : Nat} {v : Int32} (hd : decode k.2.1 pc = .ok (.iload_n n, 1)) (hi : (n : Nat) = i) (hl : lk L i = some (.int v)) (kk : J x r k (pc + 1) L (.int v :: st) h c sl) : J x r k pc L (st) h c sl :=
  fun p e s mi args below meth cd H locs ls X hH hS hL => lv_iload_n X.1 X.2.1 hd hi (lk_at hL hl) (kk p e s mi args below meth cd H locs ls X hH hS hL)
theorem J_iload {i : Nat} {v : Int32} (hd : decode k.2.1 pc = .ok (.iload i, 2)) (hl : lk L i = some (.int v)) (kk : J x r k (pc + 2) L (.int v :: st) h c sl) : J x r k pc L (st) h c sl :=
  fun p e s mi args below meth cd H locs ls X hH hS hL => lv_iload X.1 X.2.1 hd (lk_at hL hl) (kk p e s mi args below meth cd H locs ls X hH hS hL)
theorem J_lload_n {n : Fin 4} {i : Nat} {v : Int64} (hd : decode k.2.1 pc = .ok (.lload_n n, 1)) (hi : (n : Nat) = i) (hl : lk L i = some (.long v)) (kk : J x r k (pc + 1) L (.long v :: st) h c sl) : J x r k pc L (st) h c sl :=
  fun p e s mi args below meth cd H locs ls X hH hS hL => lv_lload_n X.1 X.2.1 hd hi (lk_at hL hl) (kk p e s mi args below meth cd H locs ls X hH hS hL)
theorem J_lload {i : Nat} {v : Int64} (hd : decode k.2.1 pc = .ok (.lload i, 2)) (hl : lk L i = some (.long v)) (kk : J x r k (pc + 2) L (.long v :: st) h c sl) : J x r k pc L (st) h c sl :=
  fun p e s mi args below meth cd H locs ls X hH hS hL => lv_lload X.1 X.2.1 hd (lk_at hL hl) (kk p e s mi args below meth cd H locs ls X hH hS hL)
theorem J_aload_n {n : Fin 4} {i : Nat} {v : Value} (hd : decode k.2.1 pc = .ok (.aload_n n, 1)) (hi : (n : Nat) = i) (hl : lk L i = some v) (hv : isR v) (kk : J x r k (pc + 1) L (v :: st) h c sl) : J x r k pc L st h c sl := by
  intro p e s mi args below meth cd H locs ls X hH hS hL
  rcases hv with rfl | ⟨a, rfl⟩
  · exact lv_aload_nN X.1 X.2.1 hd hi (lk_at hL hl) (kk p e s mi args below meth cd H locs ls X hH hS hL)
  · exact lv_aload_n X.1 X.2.1 hd hi (lk_at hL hl) (kk p e s mi args below meth cd H locs ls X hH hS hL)
theorem J_aload {i : Nat} {v : Value} (hd : decode k.2.1 pc = .ok (.aload i, 2)) (hl : lk L i = some v) (hv : isR v) (kk : J x r k (pc + 2) L (v :: st) h c sl) : J x r k pc L st h c sl := by
  intro p e s mi args below meth cd H locs ls X hH hS hL
  rcases hv with rfl | ⟨a, rfl⟩
  · exact lv_aloadN X.1 X.2.1 hd (lk_at hL hl) (kk p e s mi args below meth cd H locs ls X hH hS hL)
  · exact lv_aload X.1 X.2.1 hd (lk_at hL hl) (kk p e s mi args below meth cd H locs ls X hH hS hL)
theorem J_istore_n {n : Fin 4} {i : Nat} {v : Int32} (hd : decode k.2.1 pc = .ok (.istore_n n, 1)) (hi : (n : Nat) = i) (hn : i < k.2.2.1) (kk : J x r k (pc + 1) (st1 i (.int v) L) st h c sl) : J x r k pc L (.int v :: st) h c sl :=
  fun p e s mi args below meth cd H locs ls X hH hS hL => lv_istore_n X.1 X.2.1 hd hi hL hn rfl (fun ls hL => (kk p e s mi args below meth cd H locs ls X hH hS hL))
theorem J_istore {i : Nat} {v : Int32} (hd : decode k.2.1 pc = .ok (.istore i, 2)) (hn : i < k.2.2.1) (kk : J x r k (pc + 2) (st1 i (.int v) L) st h c sl) : J x r k pc L (.int v :: st) h c sl :=
  fun p e s mi args below meth cd H locs ls X hH hS hL => lv_istore X.1 X.2.1 hd hL hn rfl (fun ls hL => (kk p e s mi args below meth cd H locs ls X hH hS hL))
theorem J_lstore_n {n : Fin 4} {i : Nat} {v : Int64} (hd : decode k.2.1 pc = .ok (.lstore_n n, 1)) (hi : (n : Nat) = i) (hn : i + 1 < k.2.2.1) (kk : J x r k (pc + 1) (st2 i (.long v) L) st h c sl) : J x r k pc L (.long v :: st) h c sl :=
  fun p e s mi args below meth cd H locs ls X hH hS hL => lv_lstore_n X.1 X.2.1 hd hi hL hn rfl (fun ls hL => (kk p e s mi args below meth cd H locs ls X hH hS hL))
theorem J_lstore {i : Nat} {v : Int64} (hd : decode k.2.1 pc = .ok (.lstore i, 2)) (hn : i + 1 < k.2.2.1) (kk : J x r k (pc + 2) (st2 i (.long v) L) st h c sl) : J x r k pc L (.long v :: st) h c sl :=
  fun p e s mi args below meth cd H locs ls X hH hS hL => lv_lstore X.1 X.2.1 hd hL hn rfl (fun ls hL => (kk p e s mi args below meth cd H locs ls X hH hS hL))
theorem J_astore_n {n : Fin 4} {i : Nat} {v : Value} (hd : decode k.2.1 pc = .ok (.astore_n n, 1)) (hi : (n : Nat) = i) (hv : isR v) (hn : i < k.2.2.1) (kk : J x r k (pc + 1) (st1 i v L) st h c sl) : J x r k pc L (v :: st) h c sl := by
  intro p e s mi args below meth cd H locs ls X hH hS hL
  rcases hv with rfl | ⟨a, rfl⟩
  · exact lv_astore_nN X.1 X.2.1 hd hi hL hn rfl (fun ls hL => (kk p e s mi args below meth cd H locs ls X hH hS hL))
  · exact lv_astore_n X.1 X.2.1 hd hi hL hn rfl (fun ls hL => (kk p e s mi args below meth cd H locs ls X hH hS hL))
theorem J_astore {i : Nat} {v : Value} (hd : decode k.2.1 pc = .ok (.astore i, 2)) (hv : isR v) (hn : i < k.2.2.1) (kk : J x r k (pc + 2) (st1 i v L) st h c sl) : J x r k pc L (v :: st) h c sl := by
  intro p e s mi args below meth cd H locs ls X hH hS hL
  rcases hv with rfl | ⟨a, rfl⟩
  · exact lv_astoreN X.1 X.2.1 hd hL hn rfl (fun ls hL => (kk p e s mi args below meth cd H locs ls X hH hS hL))
  · exact lv_astore X.1 X.2.1 hd hL hn rfl (fun ls hL => (kk p e s mi args below meth cd H locs ls X hH hS hL))
theorem J_iinc {i : Nat} {n : Int} {a v : Int32} (hd : decode k.2.1 pc = .ok (.iinc i n, 3)) (hl : lk L i = some (.int a)) (hv : a + Int32.ofInt n = v) (hn : i < k.2.2.1) (kk : J x r k (pc + 3) (st1 i (.int v) L) st h c sl) : J x r k pc L st h c sl := by
  intro p e s mi args below meth cd H locs ls X hH hS hL
  obtain ⟨j, hj⟩ := List.getElem?_of_mem (lk_mem hl)
  exact lv_iinc X.1 X.2.1 hd hL hj hv hn rfl (fun ls hL => (kk p e s mi args below meth cd H locs ls X hH hS hL))
theorem J_iadd {a b : Int32} (hd : decode k.2.1 pc = .ok (.iadd, 1))  (kk : J x r k (pc + 1) L (.int (a + b) :: st) h c sl) : J x r k pc L (.int b :: .int a :: st) h c sl :=
  fun p e s mi args below meth cd H locs ls X hH hS hL => lv_iadd X.1 X.2.1 hd  (kk p e s mi args below meth cd H locs ls X hH hS hL)
theorem J_isub {a b : Int32} (hd : decode k.2.1 pc = .ok (.isub, 1))  (kk : J x r k (pc + 1) L (.int (a - b) :: st) h c sl) : J x r k pc L (.int b :: .int a :: st) h c sl :=
  fun p e s mi args below meth cd H locs ls X hH hS hL => lv_isub X.1 X.2.1 hd  (kk p e s mi args below meth cd H locs ls X hH hS hL)
theorem J_imul {a b : Int32} (hd : decode k.2.1 pc = .ok (.imul, 1))  (kk : J x r k (pc + 1) L (.int (a * b) :: st) h c sl) : J x r k pc L (.int b :: .int a :: st) h c sl :=
  fun p e s mi args below meth cd H locs ls X hH hS hL => lv_imul X.1 X.2.1 hd  (kk p e s mi args below meth cd H locs ls X hH hS hL)
theorem J_iand {a b : Int32} (hd : decode k.2.1 pc = .ok (.iand, 1))  (kk : J x r k (pc + 1) L (.int (a &&& b) :: st) h c sl) : J x r k pc L (.int b :: .int a :: st) h c sl :=
  fun p e s mi args below meth cd H locs ls X hH hS hL => lv_iand X.1 X.2.1 hd  (kk p e s mi args below meth cd H locs ls X hH hS hL)
theorem J_ladd {a b : Int64} (hd : decode k.2.1 pc = .ok (.ladd, 1))  (kk : J x r k (pc + 1) L (.long (a + b) :: st) h c sl) : J x r k pc L (.long b :: .long a :: st) h c sl :=
  fun p e s mi args below meth cd H locs ls X hH hS hL => lv_ladd X.1 X.2.1 hd  (kk p e s mi args below meth cd H locs ls X hH hS hL)
theorem J_lsub {a b : Int64} (hd : decode k.2.1 pc = .ok (.lsub, 1))  (kk : J x r k (pc + 1) L (.long (a - b) :: st) h c sl) : J x r k pc L (.long b :: .long a :: st) h c sl :=
  fun p e s mi args below meth cd H locs ls X hH hS hL => lv_lsub X.1 X.2.1 hd  (kk p e s mi args below meth cd H locs ls X hH hS hL)
theorem J_lmul {a b : Int64} (hd : decode k.2.1 pc = .ok (.lmul, 1))  (kk : J x r k (pc + 1) L (.long (a * b) :: st) h c sl) : J x r k pc L (.long b :: .long a :: st) h c sl :=
  fun p e s mi args below meth cd H locs ls X hH hS hL => lv_lmul X.1 X.2.1 hd  (kk p e s mi args below meth cd H locs ls X hH hS hL)
theorem J_land {a b : Int64} (hd : decode k.2.1 pc = .ok (.land, 1))  (kk : J x r k (pc + 1) L (.long (a &&& b) :: st) h c sl) : J x r k pc L (.long b :: .long a :: st) h c sl :=
  fun p e s mi args below meth cd H locs ls X hH hS hL => lv_land X.1 X.2.1 hd  (kk p e s mi args below meth cd H locs ls X hH hS hL)
theorem J_lor {a b : Int64} (hd : decode k.2.1 pc = .ok (.lor, 1))  (kk : J x r k (pc + 1) L (.long (a ||| b) :: st) h c sl) : J x r k pc L (.long b :: .long a :: st) h c sl :=
  fun p e s mi args below meth cd H locs ls X hH hS hL => lv_lor X.1 X.2.1 hd  (kk p e s mi args below meth cd H locs ls X hH hS hL)
theorem J_ineg {a : Int32} (hd : decode k.2.1 pc = .ok (.ineg, 1))  (kk : J x r k (pc + 1) L (.int (0 - a) :: st) h c sl) : J x r k pc L (.int a :: st) h c sl :=
  fun p e s mi args below meth cd H locs ls X hH hS hL => lv_ineg X.1 X.2.1 hd  (kk p e s mi args below meth cd H locs ls X hH hS hL)
theorem J_lneg {a : Int64} (hd : decode k.2.1 pc = .ok (.lneg, 1))  (kk : J x r k (pc + 1) L (.long (0 - a) :: st) h c sl) : J x r k pc L (.long a :: st) h c sl :=
  fun p e s mi args below meth cd H locs ls X hH hS hL => lv_lneg X.1 X.2.1 hd  (kk p e s mi args below meth cd H locs ls X hH hS hL)
theorem J_i2l {a : Int32} (hd : decode k.2.1 pc = .ok (.i2l, 1))  (kk : J x r k (pc + 1) L (.long a.toInt64 :: st) h c sl) : J x r k pc L (.int a :: st) h c sl :=
  fun p e s mi args below meth cd H locs ls X hH hS hL => lv_i2l X.1 X.2.1 hd rfl (kk p e s mi args below meth cd H locs ls X hH hS hL)
theorem J_lshl {a : Int64} {b : Int32} (hd : decode k.2.1 pc = .ok (.lshl, 1)) (kk : J x r k (pc + 1) L (.long (a <<< (b.toInt64 &&& 63)) :: st) h c sl) : J x r k pc L (.int b :: .long a :: st) h c sl :=
  fun p e s mi args below meth cd H locs ls X hH hS hL => lv_lshl X.1 X.2.1 hd rfl (kk p e s mi args below meth cd H locs ls X hH hS hL)
theorem J_lcmp {a b : Int64} (hd : decode k.2.1 pc = .ok (.lcmp, 1))  (kk : J x r k (pc + 1) L (.int (lg_cmp a b) :: st) h c sl) : J x r k pc L (.long b :: .long a :: st) h c sl :=
  fun p e s mi args below meth cd H locs ls X hH hS hL => W.lcmp X.1 X.2.1 hd  (kk p e s mi args below meth cd H locs ls X hH hS hL)
theorem J_dup {v : Value} (hd : decode k.2.1 pc = .ok (.dup, 1)) (hv : v.category = 1) (kk : J x r k (pc + 1) L (v :: v :: st) h c sl) : J x r k pc L (v :: st) h c sl :=
  fun p e s mi args below meth cd H locs ls X hH hS hL => lv_dup X.1 X.2.1 hd hv (kk p e s mi args below meth cd H locs ls X hH hS hL)
theorem J_pop {v : Value} (hd : decode k.2.1 pc = .ok (.pop, 1)) (hv : v.category = 1) (kk : J x r k (pc + 1) L (st) h c sl) : J x r k pc L (v :: st) h c sl :=
  fun p e s mi args below meth cd H locs ls X hH hS hL => lv_pop X.1 X.2.1 hd hv (kk p e s mi args below meth cd H locs ls X hH hS hL)
theorem J_dup2 {v u : Value} (hd : decode k.2.1 pc = .ok (.dup2, 1)) (hv : v.category = 1) (hu : u.category = 1) (kk : J x r k (pc + 1) L (v :: u :: v :: u :: st) h c sl) : J x r k pc L (v :: u :: st) h c sl :=
  fun p e s mi args below meth cd H locs ls X hH hS hL => lv_dup2_11 X.1 X.2.1 hd hv hu (kk p e s mi args below meth cd H locs ls X hH hS hL)
theorem J_null  (hd : decode k.2.1 pc = .ok (.aconst_null, 1))  (kk : J x r k (pc + 1) L (.null :: st) h c sl) : J x r k pc L (st) h c sl :=
  fun p e s mi args below meth cd H locs ls X hH hS hL => lv_null X.1 X.2.1 hd  (kk p e s mi args below meth cd H locs ls X hH hS hL)
theorem J_if_eq {a : Int32} {off : Int} {tgt : Nat} (hd : decode k.2.1 pc = .ok (.ifCond .eq off, 3)) (ht : (pc : Int) + off = (tgt : Int)) (kt : a = 0 → J x r k tgt L st h c sl) (kf : ¬ (a = 0) → J x r k (pc + 3) L st h c sl) : J x r k pc L (.int a :: st) h c sl :=
  fun p e s mi args below meth cd H locs ls X hH hS hL => lv_if_eq X.1 X.2.1 hd ht (fun z => kt z p e s mi args below meth cd H locs ls X hH hS hL) (fun z => kf z p e s mi args below meth cd H locs ls X hH hS hL)
theorem J_icmp_eq {a b : Int32} {off : Int} {tgt : Nat} (hd : decode k.2.1 pc = .ok (.if_icmp .eq off, 3)) (ht : (pc : Int) + off = (tgt : Int)) (kt : a = b → J x r k tgt L st h c sl) (kf : ¬ (a = b) → J x r k (pc + 3) L st h c sl) : J x r k pc L (.int b :: .int a :: st) h c sl :=
  fun p e s mi args below meth cd H locs ls X hH hS hL => lv_icmp_eq X.1 X.2.1 hd ht (fun z => kt z p e s mi args below meth cd H locs ls X hH hS hL) (fun z => kf z p e s mi args below meth cd H locs ls X hH hS hL)
theorem J_if_ne {a : Int32} {off : Int} {tgt : Nat} (hd : decode k.2.1 pc = .ok (.ifCond .ne off, 3)) (ht : (pc : Int) + off = (tgt : Int)) (kt : ¬ a = 0 → J x r k tgt L st h c sl) (kf : a = 0 → J x r k (pc + 3) L st h c sl) : J x r k pc L (.int a :: st) h c sl :=
  fun p e s mi args below meth cd H locs ls X hH hS hL => lv_if_ne X.1 X.2.1 hd ht (fun z => kt z p e s mi args below meth cd H locs ls X hH hS hL) (fun z => kf z p e s mi args below meth cd H locs ls X hH hS hL)
theorem J_icmp_ne {a b : Int32} {off : Int} {tgt : Nat} (hd : decode k.2.1 pc = .ok (.if_icmp .ne off, 3)) (ht : (pc : Int) + off = (tgt : Int)) (kt : ¬ a = b → J x r k tgt L st h c sl) (kf : a = b → J x r k (pc + 3) L st h c sl) : J x r k pc L (.int b :: .int a :: st) h c sl :=
  fun p e s mi args below meth cd H locs ls X hH hS hL => lv_icmp_ne X.1 X.2.1 hd ht (fun z => kt z p e s mi args below meth cd H locs ls X hH hS hL) (fun z => kf z p e s mi args below meth cd H locs ls X hH hS hL)
theorem J_if_lt {a : Int32} {off : Int} {tgt : Nat} (hd : decode k.2.1 pc = .ok (.ifCond .lt off, 3)) (ht : (pc : Int) + off = (tgt : Int)) (kt : a < 0 → J x r k tgt L st h c sl) (kf : ¬ (a < 0) → J x r k (pc + 3) L st h c sl) : J x r k pc L (.int a :: st) h c sl :=
  fun p e s mi args below meth cd H locs ls X hH hS hL => lv_if_lt X.1 X.2.1 hd ht (fun z => kt z p e s mi args below meth cd H locs ls X hH hS hL) (fun z => kf z p e s mi args below meth cd H locs ls X hH hS hL)
theorem J_icmp_lt {a b : Int32} {off : Int} {tgt : Nat} (hd : decode k.2.1 pc = .ok (.if_icmp .lt off, 3)) (ht : (pc : Int) + off = (tgt : Int)) (kt : a < b → J x r k tgt L st h c sl) (kf : ¬ (a < b) → J x r k (pc + 3) L st h c sl) : J x r k pc L (.int b :: .int a :: st) h c sl :=
  fun p e s mi args below meth cd H locs ls X hH hS hL => lv_icmp_lt X.1 X.2.1 hd ht (fun z => kt z p e s mi args below meth cd H locs ls X hH hS hL) (fun z => kf z p e s mi args below meth cd H locs ls X hH hS hL)
theorem J_if_ge {a : Int32} {off : Int} {tgt : Nat} (hd : decode k.2.1 pc = .ok (.ifCond .ge off, 3)) (ht : (pc : Int) + off = (tgt : Int)) (kt : 0 ≤ a → J x r k tgt L st h c sl) (kf : ¬ (0 ≤ a) → J x r k (pc + 3) L st h c sl) : J x r k pc L (.int a :: st) h c sl :=
  fun p e s mi args below meth cd H locs ls X hH hS hL => lv_if_ge X.1 X.2.1 hd ht (fun z => kt z p e s mi args below meth cd H locs ls X hH hS hL) (fun z => kf z p e s mi args below meth cd H locs ls X hH hS hL)
theorem J_icmp_ge {a b : Int32} {off : Int} {tgt : Nat} (hd : decode k.2.1 pc = .ok (.if_icmp .ge off, 3)) (ht : (pc : Int) + off = (tgt : Int)) (kt : b ≤ a → J x r k tgt L st h c sl) (kf : ¬ (b ≤ a) → J x r k (pc + 3) L st h c sl) : J x r k pc L (.int b :: .int a :: st) h c sl :=
  fun p e s mi args below meth cd H locs ls X hH hS hL => lv_icmp_ge X.1 X.2.1 hd ht (fun z => kt z p e s mi args below meth cd H locs ls X hH hS hL) (fun z => kf z p e s mi args below meth cd H locs ls X hH hS hL)
theorem J_if_gt {a : Int32} {off : Int} {tgt : Nat} (hd : decode k.2.1 pc = .ok (.ifCond .gt off, 3)) (ht : (pc : Int) + off = (tgt : Int)) (kt : 0 < a → J x r k tgt L st h c sl) (kf : ¬ (0 < a) → J x r k (pc + 3) L st h c sl) : J x r k pc L (.int a :: st) h c sl :=
  fun p e s mi args below meth cd H locs ls X hH hS hL => lv_if_gt X.1 X.2.1 hd ht (fun z => kt z p e s mi args below meth cd H locs ls X hH hS hL) (fun z => kf z p e s mi args below meth cd H locs ls X hH hS hL)
theorem J_icmp_gt {a b : Int32} {off : Int} {tgt : Nat} (hd : decode k.2.1 pc = .ok (.if_icmp .gt off, 3)) (ht : (pc : Int) + off = (tgt : Int)) (kt : b < a → J x r k tgt L st h c sl) (kf : ¬ (b < a) → J x r k (pc + 3) L st h c sl) : J x r k pc L (.int b :: .int a :: st) h c sl :=
  fun p e s mi args below meth cd H locs ls X hH hS hL => lv_icmp_gt X.1 X.2.1 hd ht (fun z => kt z p e s mi args below meth cd H locs ls X hH hS hL) (fun z => kf z p e s mi args below meth cd H locs ls X hH hS hL)
theorem J_if_le {a : Int32} {off : Int} {tgt : Nat} (hd : decode k.2.1 pc = .ok (.ifCond .le off, 3)) (ht : (pc : Int) + off = (tgt : Int)) (kt : a ≤ 0 → J x r k tgt L st h c sl) (kf : ¬ (a ≤ 0) → J x r k (pc + 3) L st h c sl) : J x r k pc L (.int a :: st) h c sl :=
  fun p e s mi args below meth cd H locs ls X hH hS hL => lv_if_le X.1 X.2.1 hd ht (fun z => kt z p e s mi args below meth cd H locs ls X hH hS hL) (fun z => kf z p e s mi args below meth cd H locs ls X hH hS hL)
theorem J_icmp_le {a b : Int32} {off : Int} {tgt : Nat} (hd : decode k.2.1 pc = .ok (.if_icmp .le off, 3)) (ht : (pc : Int) + off = (tgt : Int)) (kt : a ≤ b → J x r k tgt L st h c sl) (kf : ¬ (a ≤ b) → J x r k (pc + 3) L st h c sl) : J x r k pc L (.int b :: .int a :: st) h c sl :=
  fun p e s mi args below meth cd H locs ls X hH hS hL => lv_icmp_le X.1 X.2.1 hd ht (fun z => kt z p e s mi args below meth cd H locs ls X hH hS hL) (fun z => kf z p e s mi args below meth cd H locs ls X hH hS hL)
theorem J_goto {off : Int} {tgt : Nat} (hd : decode k.2.1 pc = .ok (.goto off, 3)) (ht : (pc : Int) + off = (tgt : Int)) (kk : J x r k tgt L st h c sl) : J x r k pc L st h c sl :=
  fun p e s mi args below meth cd H locs ls X hH hS hL => lv_goto X.1 X.2.1 hd ht (kk p e s mi args below meth cd H locs ls X hH hS hL)
theorem J_ifnull_r {a : Nat} {off : Int} (hd : decode k.2.1 pc = .ok (.ifnull off, 3)) (kk : J x r k (pc + 3) L st h c sl) : J x r k pc L (.ref a :: st) h c sl :=
  fun p e s mi args below meth cd H locs ls X hH hS hL => lv_ifnull X.1 X.2.1 hd (kk p e s mi args below meth cd H locs ls X hH hS hL)
theorem J_ifnull_n {off : Int} {tgt : Nat} (hd : decode k.2.1 pc = .ok (.ifnull off, 3)) (ht : (pc : Int) + off = (tgt : Int)) (kk : J x r k tgt L st h c sl) : J x r k pc L (.null :: st) h c sl :=
  fun p e s mi args below meth cd H locs ls X hH hS hL => lv_ifnullN X.1 X.2.1 hd ht (kk p e s mi args below meth cd H locs ls X hH hS hL)
theorem J_ifnonnull_r {a : Nat} {off : Int} {tgt : Nat} (hd : decode k.2.1 pc = .ok (.ifnonnull off, 3)) (ht : (pc : Int) + off = (tgt : Int)) (kk : J x r k tgt L st h c sl) : J x r k pc L (.ref a :: st) h c sl :=
  fun p e s mi args below meth cd H locs ls X hH hS hL => lv_ifnonnull X.1 X.2.1 hd ht (kk p e s mi args below meth cd H locs ls X hH hS hL)
theorem J_ifnonnull_n {off : Int} (hd : decode k.2.1 pc = .ok (.ifnonnull off, 3)) (kk : J x r k (pc + 3) L st h c sl) : J x r k pc L (.null :: st) h c sl :=
  fun p e s mi args below meth cd H locs ls X hH hS hL => lv_ifnonnullN X.1 X.2.1 hd (kk p e s mi args below meth cd H locs ls X hH hS hL)
theorem J_ifnull_w {w : Option Nat} {off : Int} {tgt : Nat} (hd : decode k.2.1 pc = .ok (.ifnull off, 3)) (ht : (pc : Int) + off = (tgt : Int)) (kt : w = none → J x r k tgt L st h c sl) (kf : ∀ a, w = some a → J x r k (pc + 3) L st h c sl) : J x r k pc L (va_rf w :: st) h c sl := by
  cases w with
  | none => exact J_ifnull_n hd ht (kt rfl)
  | some a => exact J_ifnull_r hd (kf a rfl)
theorem J_ifnonnull_w {w : Option Nat} {off : Int} {tgt : Nat} (hd : decode k.2.1 pc = .ok (.ifnonnull off, 3)) (ht : (pc : Int) + off = (tgt : Int)) (kt : ∀ a, w = some a → J x r k tgt L st h c sl) (kf : w = none → J x r k (pc + 3) L st h c sl) : J x r k pc L (va_rf w :: st) h c sl := by
  cases w with
  | none => exact J_ifnonnull_n hd (kf rfl)
  | some a => exact J_ifnonnull_r hd ht (kt a rfl)
theorem J_tswIn {dflt lo hi : Int} {offs : Array Int} {len : Nat} {a : Int32} {off : Int} {tgt : Nat} (hd : decode k.2.1 pc = .ok (.tableswitch dflt lo hi offs, len)) (h1 : ¬ a.toInt < lo) (h2 : ¬ hi < a.toInt) (ho : offs[(a.toInt - lo).toNat]? = some off) (ht : (pc : Int) + off = (tgt : Int)) (kk : J x r k tgt L st h c sl) : J x r k pc L (.int a :: st) h c sl :=
  fun p e s mi args below meth cd H locs ls X hH hS hL => lv_tableIn X.1 X.2.1 hd h1 h2 ho ht (kk p e s mi args below meth cd H locs ls X hH hS hL)
theorem J_tswOut {dflt lo hi : Int} {offs : Array Int} {len : Nat} {a : Int32} {tgt : Nat} (hd : decode k.2.1 pc = .ok (.tableswitch dflt lo hi offs, len)) (h1 : a.toInt < lo ∨ hi < a.toInt) (ht : (pc : Int) + dflt = (tgt : Int)) (kk : J x r k tgt L st h c sl) : J x r k pc L (.int a :: st) h c sl :=
  fun p e s mi args below meth cd H locs ls X hH hS hL => lv_tableOut X.1 X.2.1 hd h1 ht (kk p e s mi args below meth cd H locs ls X hH hS hL)
theorem J_lsw {dflt : Int} {ps : Array (Int × Int)} {len : Nat} {a : Int32} {off : Int} {tgt : Nat} (hd : decode k.2.1 pc = .ok (.lookupswitch dflt ps, len)) (hp : (ps.toList.zip (ps.toList.drop 1)).all (fun (a, next) => a.1 < next.1) = true) (ho : Op.lookupswitch.offset ps.toList dflt a.toInt = off) (ht : (pc : Int) + off = (tgt : Int)) (kk : J x r k tgt L st h c sl) : J x r k pc L (.int a :: st) h c sl :=
  fun p e s mi args below meth cd H locs ls X hH hS hL => lv_lookup X.1 X.2.1 hd hp ho ht (kk p e s mi args below meth cd H locs ls X hH hS hL)
def om_G (own : String) (idx ci fid ty : Nat) : Prop := ∃ f, om_FL own idx ci f ∧ fT ci f = ty ∧ fid = 64 * ci + f ∧ f < 64 ∧ ci < 15
theorem om_FL.get {own : String} {idx ci f : Nat} (hf : om_FL own idx ci f) {p : Program} {e : Env} {R : Room} {s : State} {mi : MethodId} {args : Array Value} {below : List Frame} {meth : Method} {cd : Code} {H : Heap} {locs : List Loc} {Z : State → Prop} {ls : Array Slot} {a : Nat}
    (X : om_X x k p s mi args meth cd) (ho : k.1.cls = own) (hH : om_H x h H) (hk : hK h a = ci + 1) (hc : ci < 15) (hd : decode k.2.1 pc = .ok (.getfield idx, 3)) (kk : W p x.1 e R s mi args below meth cd H locs c sl Z (F0 mi (pc + 3) ls (fV ci h a f :: st))) : W p x.1 e R s mi args below meth cd H locs c sl Z (F0 mi pc ls (.ref a :: st)) := by
  obtain ⟨C, T, N, h1, h2, h3, h4⟩ := hf
  obtain ⟨rr, g1, cell, q1, q2, q3, q4⟩ := hH.obj hk hc
  have hr : rr = (C, T, N) := Option.some.inj (g1.symm.trans h1)
  subst hr
  obtain ⟨hS, hfc, kC, hkC, hkind⟩ := X.2.2.2.2.2.1.1.1 ci _ h1
  obtain ⟨cf, kf, fi, fd, hi, hsl⟩ := hS f h3
  refine W.getf X.1 X.2.1 (ho ▸ X.2.2.2.1) (X.2.2.2.2.1 _ h4) hi (u_facts hfc hkC (u_lays X.2.2.2.2.1 h2 h3) hi).1 q1 (by rw [q3]; exact fun z => by cases z) (v := fV ci h a f) ?_ rfl rfl hd kk
  rw [hsl]
  exact q4 f h3
theorem J_getI {idx ci fid ty a : Nat} (hd : decode k.2.1 pc = .ok (.getfield idx, 3)) (hf : om_G k.1.cls idx ci fid ty) (hk : hK h a = ci + 1) (kk : J x r k (pc + 3) L (.int (hI h fid a) :: st) h c sl) (hty : ty ≠ 1 ∧ ty ≠ 2 := by decide) : J x r k pc L (.ref a :: st) h c sl := by
  intro p e s mi args below meth cd H locs ls X hH hS hL
  obtain ⟨f, hf, h1, rfl, -, hc⟩ := hf
  refine hf.get X rfl hH hk hc hd ?_
  have e1 : fV ci h a f = .int (hI h (64 * ci + f) a) := by unfold fV; rw [h1, if_neg hty.1, if_neg hty.2]
  rw [e1]
  exact kk p e s mi args below meth cd H locs ls X hH hS hL
theorem J_getJ {idx ci fid a : Nat} (hd : decode k.2.1 pc = .ok (.getfield idx, 3)) (hf : om_G k.1.cls idx ci fid 1) (hk : hK h a = ci + 1) (kk : J x r k (pc + 3) L (.long (hJ h fid a) :: st) h c sl) : J x r k pc L (.ref a :: st) h c sl := by
  intro p e s mi args below meth cd H locs ls X hH hS hL
  obtain ⟨f, hf, h1, rfl, -, hc⟩ := hf
  refine hf.get X rfl hH hk hc hd ?_
  have e1 : fV ci h a f = .long (hJ h (64 * ci + f) a) := by unfold fV; rw [h1, if_pos rfl]
  rw [e1]
  exact kk p e s mi args below meth cd H locs ls X hH hS hL
theorem J_getR {idx ci fid a : Nat} {w : Option Nat} (hd : decode k.2.1 pc = .ok (.getfield idx, 3)) (hf : om_G k.1.cls idx ci fid 2) (hk : hK h a = ci + 1) (hw : hR h fid a = w) (kk : J x r k (pc + 3) L (va_rf w :: st) h c sl) : J x r k pc L (.ref a :: st) h c sl := by
  intro p e s mi args below meth cd H locs ls X hH hS hL
  obtain ⟨f, hf, h1, rfl, -, hc⟩ := hf
  refine hf.get X rfl hH hk hc hd ?_
  have e1 : fV ci h a f = va_rf w := by unfold fV; rw [h1, if_neg (by decide), if_pos rfl, hw]
  rw [e1]
  exact kk p e s mi args below meth cd H locs ls X hH hS hL
theorem J_getRr {idx ci fid a b : Nat} (hd : decode k.2.1 pc = .ok (.getfield idx, 3)) (hf : om_G k.1.cls idx ci fid 2) (hk : hK h a = ci + 1) (hw : hR h fid a = some b) (kk : J x r k (pc + 3) L (.ref b :: st) h c sl) : J x r k pc L (.ref a :: st) h c sl := J_getR hd hf hk hw kk
def om_PF (own : String) (idx ci fid ty : Nat) (fty : FieldType) (fin : Bool) : Prop := ∃ f C T N, om_FL own idx ci f ∧ fT ci f = ty ∧ fid = 64 * ci + f ∧ f < 64 ∧ ci < 15 ∧ vwCl[ci]? = some (C, T, N) ∧ N ≤ 64 ∧ f < N ∧ (T f).2.2.2 = fin ∧ parseFieldDescriptor (T f).2.2.1 = some fty ∧ (∃ tys : Nat → FieldType, ∀ j, j < N → parseFieldDescriptor (T j).2.2.1 = some (tys j)) ∧ (∀ a, a < N → ∀ b, b < N → a ≠ b → (T a).2.1 ≠ (T b).2.1) ∧ (fin = true → (T f).1 = own)
theorem om_PF.put {own : String} {idx ci fid ty : Nat} {fty : FieldType} {fin : Bool} (hf : om_PF own idx ci fid ty fty fin) {p : Program} {e : Env} {R : Room} {s : State} {mi : MethodId} {args : Array Value} {below : List Frame} {meth : Method} {cd : Code} {H : Heap} {locs : List Loc} {Z : State → Prop} {ls : Array Slot} {a : Nat} {v : Value}
    (X : om_X x k p s mi args meth cd) (ho : k.1.cls = own) (hH : om_H x h H) (hS : va_S (om_A x) s.heap H locs) (hk : hK h a = ci + 1) (hn : narrow fty v = v) (hfit : fits fty v = true) (hin : fin = true → k.1.name = "<init>") (hd : decode k.2.1 pc = .ok (.putfield idx, 3))
    (kk : ∀ (f : Nat) (rr : vw_C) (H1 : Heap) (locs1 : List Loc), fid = 64 * ci + f → f < 64 → fT ci f = ty → vwCl[ci]? = some rr → rr.2.2 ≤ 64 → t_OB a (x.2.1.1 ci) rr.2.2 (x.2.1.2 ci) H1 (updV (fV ci h a) f v) → (∀ q : Nat, q ≠ a → H1[q]? = H[q]?) → va_S (om_A x) s.heap H1 locs1 → W p x.1 e R s mi args below meth cd H1 locs1 c sl Z (F0 mi (pc + 3) ls st)) : W p x.1 e R s mi args below meth cd H locs c sl Z (F0 mi pc ls (v :: .ref a :: st)) := by
  obtain ⟨f, C, T, N, hf, h1, h2, hlt, hc, hcl, hN64, hfN, hfin, hdesc, ⟨tys, hty⟩, hnm, hdecl⟩ := hf
  obtain ⟨C', T', N', h1', h2', h3', h4'⟩ := hf
  have hcc : (C', T', N') = (C, T, N) := Option.some.inj (h1'.symm.trans hcl)
  cases hcc
  have hts := X.2.2.2.2.1
  have hown : s.vm.findClass own = some mi.cls := ho ▸ X.2.2.2.1
  have hK := X.2.2.2.2.2.1.1
  have hap := va_apart (own := own) hts h2' tys hty hnm hK hcl
  obtain ⟨rr, g1, cell, q1, q2, q3, q4⟩ := hH.obj hk hc
  have hr : rr = (C, T, N) := Option.some.inj (g1.symm.trans hcl)
  subst hr
  obtain ⟨hSl, hfc, kC, hkC, hkind⟩ := hK.1 ci _ hcl
  obtain ⟨cf, kf, fi, fd, hi, hsl⟩ := hSl f hfN
  have hlay := hts _ (h2' _ (u_in_lay hfN))
  have hst := (u_facts hfc hkC (u_lays hts h2' hfN) hi).1
  have hba := (hH a (by omega)).1
  cases fin with
  | false =>
    unfold u_lay at hlay
    rw [if_neg (by rw [hfin]; decide)] at hlay
    have h6 := u_store hfc hkC hkind hlay hi hdesc hn hfit
    refine W.putK X.1 X.2.1 (f := fd) ⟨hown, hts _ h4', ⟨_, _, _, hi⟩, hst⟩ (by rw [q2]; exact h6) q1 q3 (by rw [hsl]; exact k2_hasslot (q4 f hfN)) rfl rfl hd fun H' e1 e2 e3 => ?_
    rw [hsl] at e1 ⊢
    exact kk f _ H' _ h2 hlt h1 hcl hN64 ⟨_, e1, q2, q3, t_set q4 hap hfN v⟩ e3 (hS.put e2 e3 hba)
  | true =>
    unfold u_lay at hlay
    rw [if_pos hfin] at hlay
    have hcf : mi.cls = cf := by
      obtain ⟨_, _, c', _, _, _, -, -, hf', -, -, -, hown2, -⟩ := Cond.laysFinal_spec hlay
      have e1 : c' = cf := by have := hi.symm.trans hf'; simp at this; exact this.1.symm
      rw [hdecl rfl] at hown2
      rw [← e1]; exact Option.some.inj (hown.symm.trans hown2)
    have h6 := u_fits hfc hkC hkind (Or.inr hlay) hi hdesc hn hfit
    refine W.putFinK X.1 X.2.1 hown (hts _ h4') hi hst hcf (X.2.2.2.2.2.2.2.2.1.trans (hin rfl)) (by rw [q2]; exact h6) q1 q3 (by rw [hsl]; exact k2_hasslot (q4 f hfN)) rfl rfl hd fun H' e1 e2 e3 => ?_
    rw [hsl] at e1 ⊢
    exact kk f _ H' _ h2 hlt h1 hcl hN64 ⟨_, e1, q2, q3, t_set q4 hap hfN v⟩ e3 (hS.put e2 e3 hba)
theorem J_putI {idx ci fid ty a : Nat} {v : Int32} {fin : Bool} (hd : decode k.2.1 pc = .ok (.putfield idx, 3)) (hf : om_PF k.1.cls idx ci fid ty .int fin) (hk : hK h a = ci + 1) (kk : J x r k (pc + 3) L st (sI h fid a v) c sl) (hty : ty ≠ 1 ∧ ty ≠ 2 := by decide) (hin : fin = true → k.1.name = "<init>" := by first | exact (fun z => by cases z) | exact (fun _ => rfl)) : J x r k pc L (.int v :: .ref a :: st) h c sl := by
  intro p e s mi args below meth cd H locs ls X hH hS hL
  refine hf.put X rfl hH hS hk rfl rfl hin hd fun f rr H1 locs1 e1 hlt h1 hr hN hob oq hS1 => ?_
  subst e1
  obtain ⟨-, -, -, -, -, -, -, -, hc, -⟩ := hf
  exact kk p e s mi args below meth cd H1 locs1 ls X (om_sI hH hk hc (by rw [h1]; exact hty) hlt hr hN hob oq) hS1 hL
theorem J_putZ {idx ci fid ty a : Nat} {v : Int32} {fin : Bool} (hd : decode k.2.1 pc = .ok (.putfield idx, 3)) (hf : om_PF k.1.cls idx ci fid ty .boolean fin) (hk : hK h a = ci + 1) (hv : v = 0 ∨ v = 1) (kk : J x r k (pc + 3) L st (sI h fid a v) c sl) (hty : ty ≠ 1 ∧ ty ≠ 2 := by decide) (hin : fin = true → k.1.name = "<init>" := by first | exact (fun z => by cases z) | exact (fun _ => rfl)) : J x r k pc L (.int v :: .ref a :: st) h c sl := by
  intro p e s mi args below meth cd H locs ls X hH hS hL
  refine hf.put X rfl hH hS hk (by rcases hv with rfl | rfl <;> rfl) (by rcases hv with rfl | rfl <;> rfl) hin hd fun f rr H1 locs1 e1 hlt h1 hr hN hob oq hS1 => ?_
  subst e1
  obtain ⟨-, -, -, -, -, -, -, -, hc, -⟩ := hf
  exact kk p e s mi args below meth cd H1 locs1 ls X (om_sI hH hk hc (by rw [h1]; exact hty) hlt hr hN hob oq) hS1 hL
theorem J_putJ {idx ci fid a : Nat} {v : Int64} {fin : Bool} (hd : decode k.2.1 pc = .ok (.putfield idx, 3)) (hf : om_PF k.1.cls idx ci fid 1 .long fin) (hk : hK h a = ci + 1) (kk : J x r k (pc + 3) L st (sJ h fid a v) c sl) (hin : fin = true → k.1.name = "<init>" := by first | exact (fun z => by cases z) | exact (fun _ => rfl)) : J x r k pc L (.long v :: .ref a :: st) h c sl := by
  intro p e s mi args below meth cd H locs ls X hH hS hL
  refine hf.put X rfl hH hS hk rfl rfl hin hd fun f rr H1 locs1 e1 hlt h1 hr hN hob oq hS1 => ?_
  subst e1
  obtain ⟨-, -, -, -, -, -, -, -, hc, -⟩ := hf
  exact kk p e s mi args below meth cd H1 locs1 ls X (om_sJ hH hk hc h1 hlt hr hN hob oq) hS1 hL
theorem J_putR {idx ci fid a : Nat} {w : Option Nat} {fty : FieldType} {fin : Bool} (hd : decode k.2.1 pc = .ok (.putfield idx, 3)) (hf : om_PF k.1.cls idx ci fid 2 fty fin) (hr : (∃ n, fty = .object n) ∨ ∃ t, fty = .array t) (hk : hK h a = ci + 1) (kk : J x r k (pc + 3) L st (sR h fid a w) c sl) (hin : fin = true → k.1.name = "<init>" := by first | exact (fun z => by cases z) | exact (fun _ => rfl)) : J x r k pc L (va_rf w :: .ref a :: st) h c sl := by
  intro p e s mi args below meth cd H locs ls X hH hS hL
  refine hf.put X rfl hH hS hk (by rcases hr with ⟨n, rfl⟩ | ⟨t, rfl⟩ <;> cases w <;> rfl) (by rcases hr with ⟨n, rfl⟩ | ⟨t, rfl⟩ <;> cases w <;> rfl) hin hd fun f rr H1 locs1 e1 hlt h1 hr hN hob oq hS1 => ?_
  subst e1
  obtain ⟨-, -, -, -, -, -, -, -, hc, -⟩ := hf
  exact kk p e s mi args below meth cd H1 locs1 ls X (om_sR hH hk hc h1 hlt hr hN hob oq) hS1 hL
theorem J_putRr {idx ci fid a b : Nat} {fty : FieldType} {fin : Bool} (hd : decode k.2.1 pc = .ok (.putfield idx, 3)) (hf : om_PF k.1.cls idx ci fid 2 fty fin) (hr : (∃ n, fty = .object n) ∨ ∃ t, fty = .array t) (hk : hK h a = ci + 1) (kk : J x r k (pc + 3) L st (sR h fid a (some b)) c sl) (hin : fin = true → k.1.name = "<init>" := by first | exact (fun z => by cases z) | exact (fun _ => rfl)) : J x r k pc L (.ref b :: .ref a :: st) h c sl := J_putR (w := some b) hd hf hr hk kk hin
end JR
theorem g_X0_9 : om_G RX0 9 0 10 0 := ⟨10, fl_X0_9, rfl, rfl, by decide, by decide⟩
theorem p_X0_9 : om_PF RX0 9 0 10 0 .int false := ⟨10, _, _, _, fl_X0_9, rfl, rfl, by decide, by decide, rfl, by decide, by decide, rfl, by decide +kernel, ⟨tyX0, tyX0_ok⟩, nmX0, fun _ => rfl⟩
theorem g_X0_15 : om_G RX0 15 0 0 0 := ⟨0, fl_X0_15, rfl, rfl, by decide, by decide⟩
theorem p_X0_15 : om_PF RX0 15 0 0 0 .int true := ⟨0, _, _, _, fl_X0_15, rfl, rfl, by decide, by decide, rfl, by decide, by decide, rfl, by decide +kernel, ⟨tyX0, tyX0_ok⟩, nmX0, fun _ => rfl⟩
theorem g_X0_18 : om_G RX0 18 0 1 0 := ⟨1, fl_X0_18, rfl, rfl, by decide, by decide⟩
theorem p_X0_18 : om_PF RX0 18 0 1 0 .int true := ⟨1, _, _, _, fl_X0_18, rfl, rfl, by decide, by decide, rfl, by decide, by decide, rfl, by decide +kernel, ⟨tyX0, tyX0_ok⟩, nmX0, fun _ => rfl⟩
theorem g_X0_21 : om_G RX0 21 0 2 0 := ⟨2, fl_X0_21, rfl, rfl, by decide, by decide⟩
theorem p_X0_21 : om_PF RX0 21 0 2 0 .int true := ⟨2, _, _, _, fl_X0_21, rfl, rfl, by decide, by decide, rfl, by decide, by decide, rfl, by decide +kernel, ⟨tyX0, tyX0_ok⟩, nmX0, fun _ => rfl⟩
theorem g_X0_24 : om_G RX0 24 0 3 0 := ⟨3, fl_X0_24, rfl, rfl, by decide, by decide⟩
theorem p_X0_24 : om_PF RX0 24 0 3 0 .int true := ⟨3, _, _, _, fl_X0_24, rfl, rfl, by decide, by decide, rfl, by decide, by decide, rfl, by decide +kernel, ⟨tyX0, tyX0_ok⟩, nmX0, fun _ => rfl⟩
theorem g_X0_27 : om_G RX0 27 0 11 1 := ⟨11, fl_X0_27, rfl, rfl, by decide, by decide⟩
theorem p_X0_27 : om_PF RX0 27 0 11 1 .long false := ⟨11, _, _, _, fl_X0_27, rfl, rfl, by decide, by decide, rfl, by decide, by decide, rfl, by decide +kernel, ⟨tyX0, tyX0_ok⟩, nmX0, fun _ => rfl⟩
theorem g_X0_35 : om_G RX0 35 0 4 0 := ⟨4, fl_X0_35, rfl, rfl, by decide, by decide⟩
theorem p_X0_35 : om_PF RX0 35 0 4 0 .int false := ⟨4, _, _, _, fl_X0_35, rfl, rfl, by decide, by decide, rfl, by decide, by decide, rfl, by decide +kernel, ⟨tyX0, tyX0_ok⟩, nmX0, fun _ => rfl⟩
theorem g_X0_38 : om_G RX0 38 0 5 0 := ⟨5, fl_X0_38, rfl, rfl, by decide, by decide⟩
theorem p_X0_38 : om_PF RX0 38 0 5 0 .int false := ⟨5, _, _, _, fl_X0_38, rfl, rfl, by decide, by decide, rfl, by decide, by decide, rfl, by decide +kernel, ⟨tyX0, tyX0_ok⟩, nmX0, fun _ => rfl⟩
theorem g_X1_9 : om_G RX1 9 1 65 3 := ⟨1, fl_X1_9, rfl, rfl, by decide, by decide⟩
theorem p_X1_9 : om_PF RX1 9 1 65 3 .boolean false := ⟨1, _, _, _, fl_X1_9, rfl, rfl, by decide, by decide, rfl, by decide, by decide, rfl, by decide +kernel, ⟨tyX1, tyX1_ok⟩, nmX1, fun _ => rfl⟩
theorem g_X1_15 : om_G RX1 15 1 66 0 := ⟨2, fl_X1_15, rfl, rfl, by decide, by decide⟩
theorem p_X1_15 : om_PF RX1 15 1 66 0 .int false := ⟨2, _, _, _, fl_X1_15, rfl, rfl, by decide, by decide, rfl, by decide, by decide, rfl, by decide +kernel, ⟨tyX1, tyX1_ok⟩, nmX1, fun _ => rfl⟩
theorem g_X1_19 : om_G RX1 19 1 67 0 := ⟨3, fl_X1_19, rfl, rfl, by decide, by decide⟩
theorem p_X1_19 : om_PF RX1 19 1 67 0 .int false := ⟨3, _, _, _, fl_X1_19, rfl, rfl, by decide, by decide, rfl, by decide, by decide, rfl, by decide +kernel, ⟨tyX1, tyX1_ok⟩, nmX1, fun _ => rfl⟩
theorem g_X1_22 : om_G RX1 22 1 68 0 := ⟨4, fl_X1_22, rfl, rfl, by decide, by decide⟩
theorem p_X1_22 : om_PF RX1 22 1 68 0 .int false := ⟨4, _, _, _, fl_X1_22, rfl, rfl, by decide, by decide, rfl, by decide, by decide, rfl, by decide +kernel, ⟨tyX1, tyX1_ok⟩, nmX1, fun _ => rfl⟩
theorem g_X1_27 : om_G RX1 27 1 69 2 := ⟨5, fl_X1_27, rfl, rfl, by decide, by decide⟩
theorem p_X1_27 : om_PF RX1 27 1 69 2 (.array (.object "OnceOnly$Ask")) true := ⟨5, _, _, _, fl_X1_27, rfl, rfl, by decide, by decide, rfl, by decide, by decide, rfl, by decide +kernel, ⟨tyX1, tyX1_ok⟩, nmX1, fun _ => rfl⟩
theorem g_X1_31 : om_G RX1 31 1 64 0 := ⟨0, fl_X1_31, rfl, rfl, by decide, by decide⟩
theorem p_X1_31 : om_PF RX1 31 1 64 0 .int true := ⟨0, _, _, _, fl_X1_31, rfl, rfl, by decide, by decide, rfl, by decide, by decide, rfl, by decide +kernel, ⟨tyX1, tyX1_ok⟩, nmX1, fun _ => rfl⟩
theorem g_X1_38 : om_G RX1 38 0 10 0 := ⟨10, fl_X1_38, rfl, rfl, by decide, by decide⟩
theorem p_X1_38 : om_PF RX1 38 0 10 0 .int false := ⟨10, _, _, _, fl_X1_38, rfl, rfl, by decide, by decide, rfl, by decide, by decide, rfl, by decide +kernel, ⟨tyX0, tyX0_ok⟩, nmX0, fun z => by cases z⟩
theorem g_X2_7 : om_G RX2 7 2 128 2 := ⟨0, fl_X2_7, rfl, rfl, by decide, by decide⟩
theorem p_X2_7 : om_PF RX2 7 2 128 2 (.object "OnceOnly$Ask") false := ⟨0, _, _, _, fl_X2_7, rfl, rfl, by decide, by decide, rfl, by decide, by decide, rfl, by decide +kernel, ⟨tyX2, tyX2_ok⟩, nmX2, fun _ => rfl⟩
theorem g_X2_13 : om_G RX2 13 2 129 3 := ⟨1, fl_X2_13, rfl, rfl, by decide, by decide⟩
theorem p_X2_13 : om_PF RX2 13 2 129 3 .boolean false := ⟨1, _, _, _, fl_X2_13, rfl, rfl, by decide, by decide, rfl, by decide, by decide, rfl, by decide +kernel, ⟨tyX2, tyX2_ok⟩, nmX2, fun _ => rfl⟩
theorem g_X2_17 : om_G RX2 17 2 130 3 := ⟨2, fl_X2_17, rfl, rfl, by decide, by decide⟩
theorem p_X2_17 : om_PF RX2 17 2 130 3 .boolean false := ⟨2, _, _, _, fl_X2_17, rfl, rfl, by decide, by decide, rfl, by decide, by decide, rfl, by decide +kernel, ⟨tyX2, tyX2_ok⟩, nmX2, fun _ => rfl⟩
theorem g_X2_20 : om_G RX2 20 2 131 3 := ⟨3, fl_X2_20, rfl, rfl, by decide, by decide⟩
theorem p_X2_20 : om_PF RX2 20 2 131 3 .boolean false := ⟨3, _, _, _, fl_X2_20, rfl, rfl, by decide, by decide, rfl, by decide, by decide, rfl, by decide +kernel, ⟨tyX2, tyX2_ok⟩, nmX2, fun _ => rfl⟩
theorem g_X2_23 : om_G RX2 23 2 132 0 := ⟨4, fl_X2_23, rfl, rfl, by decide, by decide⟩
theorem p_X2_23 : om_PF RX2 23 2 132 0 .int false := ⟨4, _, _, _, fl_X2_23, rfl, rfl, by decide, by decide, rfl, by decide, by decide, rfl, by decide +kernel, ⟨tyX2, tyX2_ok⟩, nmX2, fun _ => rfl⟩
theorem g_X2_27 : om_G RX2 27 2 133 1 := ⟨5, fl_X2_27, rfl, rfl, by decide, by decide⟩
theorem p_X2_27 : om_PF RX2 27 2 133 1 .long false := ⟨5, _, _, _, fl_X2_27, rfl, rfl, by decide, by decide, rfl, by decide, by decide, rfl, by decide +kernel, ⟨tyX2, tyX2_ok⟩, nmX2, fun _ => rfl⟩
theorem g_X3_9 : om_G RX3 9 3 194 0 := ⟨2, fl_X3_9, rfl, rfl, by decide, by decide⟩
theorem p_X3_9 : om_PF RX3 9 3 194 0 .int false := ⟨2, _, _, _, fl_X3_9, rfl, rfl, by decide, by decide, rfl, by decide, by decide, rfl, by decide +kernel, ⟨tyX3, tyX3_ok⟩, nmX3, fun _ => rfl⟩
theorem g_X3_15 : om_G RX3 15 3 196 2 := ⟨4, fl_X3_15, rfl, rfl, by decide, by decide⟩
theorem p_X3_15 : om_PF RX3 15 3 196 2 (.array .int) true := ⟨4, _, _, _, fl_X3_15, rfl, rfl, by decide, by decide, rfl, by decide, by decide, rfl, by decide +kernel, ⟨tyX3, tyX3_ok⟩, nmX3, fun _ => rfl⟩
theorem g_X3_19 : om_G RX3 19 3 197 2 := ⟨5, fl_X3_19, rfl, rfl, by decide, by decide⟩
theorem p_X3_19 : om_PF RX3 19 3 197 2 (.array .long) true := ⟨5, _, _, _, fl_X3_19, rfl, rfl, by decide, by decide, rfl, by decide, by decide, rfl, by decide +kernel, ⟨tyX3, tyX3_ok⟩, nmX3, fun _ => rfl⟩
theorem g_X3_23 : om_G RX3 23 3 192 0 := ⟨0, fl_X3_23, rfl, rfl, by decide, by decide⟩
theorem p_X3_23 : om_PF RX3 23 3 192 0 .int true := ⟨0, _, _, _, fl_X3_23, rfl, rfl, by decide, by decide, rfl, by decide, by decide, rfl, by decide +kernel, ⟨tyX3, tyX3_ok⟩, nmX3, fun _ => rfl⟩
theorem g_X3_30 : om_G RX3 30 3 195 0 := ⟨3, fl_X3_30, rfl, rfl, by decide, by decide⟩
theorem p_X3_30 : om_PF RX3 30 3 195 0 .int false := ⟨3, _, _, _, fl_X3_30, rfl, rfl, by decide, by decide, rfl, by decide, by decide, rfl, by decide +kernel, ⟨tyX3, tyX3_ok⟩, nmX3, fun _ => rfl⟩
theorem g_X3_43 : om_G RX3 43 3 193 0 := ⟨1, fl_X3_43, rfl, rfl, by decide, by decide⟩
theorem p_X3_43 : om_PF RX3 43 3 193 0 .int false := ⟨1, _, _, _, fl_X3_43, rfl, rfl, by decide, by decide, rfl, by decide, by decide, rfl, by decide +kernel, ⟨tyX3, tyX3_ok⟩, nmX3, fun _ => rfl⟩
theorem g_X4_11 : om_G RX4 11 4 260 2 := ⟨4, fl_X4_11, rfl, rfl, by decide, by decide⟩
theorem p_X4_11 : om_PF RX4 11 4 260 2 (.array (.object "OnceOnly$Letter")) true := ⟨4, _, _, _, fl_X4_11, rfl, rfl, by decide, by decide, rfl, by decide, by decide, rfl, by decide +kernel, ⟨tyX4, tyX4_ok⟩, nmX4, fun _ => rfl⟩
theorem g_X4_18 : om_G RX4 18 4 256 0 := ⟨0, fl_X4_18, rfl, rfl, by decide, by decide⟩
theorem p_X4_18 : om_PF RX4 18 4 256 0 .int false := ⟨0, _, _, _, fl_X4_18, rfl, rfl, by decide, by decide, rfl, by decide, by decide, rfl, by decide +kernel, ⟨tyX4, tyX4_ok⟩, nmX4, fun _ => rfl⟩
theorem g_X4_30 : om_G RX4 30 4 258 0 := ⟨2, fl_X4_30, rfl, rfl, by decide, by decide⟩
theorem p_X4_30 : om_PF RX4 30 4 258 0 .int false := ⟨2, _, _, _, fl_X4_30, rfl, rfl, by decide, by decide, rfl, by decide, by decide, rfl, by decide +kernel, ⟨tyX4, tyX4_ok⟩, nmX4, fun _ => rfl⟩
theorem g_X4_37 : om_G RX4 37 4 259 0 := ⟨3, fl_X4_37, rfl, rfl, by decide, by decide⟩
theorem p_X4_37 : om_PF RX4 37 4 259 0 .int false := ⟨3, _, _, _, fl_X4_37, rfl, rfl, by decide, by decide, rfl, by decide, by decide, rfl, by decide +kernel, ⟨tyX4, tyX4_ok⟩, nmX4, fun _ => rfl⟩
theorem g_X5_9 : om_G RX5 9 5 320 2 := ⟨0, fl_X5_9, rfl, rfl, by decide, by decide⟩
theorem p_X5_9 : om_PF RX5 9 5 320 2 (.array .long) true := ⟨0, _, _, _, fl_X5_9, rfl, rfl, by decide, by decide, rfl, by decide, by decide, rfl, by decide +kernel, ⟨tyX5, tyX5_ok⟩, nmX5, fun _ => rfl⟩
theorem g_X5_17 : om_G RX5 17 5 321 2 := ⟨1, fl_X5_17, rfl, rfl, by decide, by decide⟩
theorem p_X5_17 : om_PF RX5 17 5 321 2 (.array (.object "OnceOnly$Memory")) true := ⟨1, _, _, _, fl_X5_17, rfl, rfl, by decide, by decide, rfl, by decide, by decide, rfl, by decide +kernel, ⟨tyX5, tyX5_ok⟩, nmX5, fun _ => rfl⟩
theorem g_X6_11 : om_G RX6 11 6 385 2 := ⟨1, fl_X6_11, rfl, rfl, by decide, by decide⟩
theorem p_X6_11 : om_PF RX6 11 6 385 2 (.array (.object "OnceOnly$End")) true := ⟨1, _, _, _, fl_X6_11, rfl, rfl, by decide, by decide, rfl, by decide, by decide, rfl, by decide +kernel, ⟨tyX6, tyX6_ok⟩, nmX6, fun _ => rfl⟩
theorem g_X6_17 : om_G RX6 17 6 386 2 := ⟨2, fl_X6_17, rfl, rfl, by decide, by decide⟩
theorem p_X6_17 : om_PF RX6 17 6 386 2 (.array (.object "OnceOnly$Server")) true := ⟨2, _, _, _, fl_X6_17, rfl, rfl, by decide, by decide, rfl, by decide, by decide, rfl, by decide +kernel, ⟨tyX6, tyX6_ok⟩, nmX6, fun _ => rfl⟩
theorem g_X6_23 : om_G RX6 23 6 387 2 := ⟨3, fl_X6_23, rfl, rfl, by decide, by decide⟩
theorem p_X6_23 : om_PF RX6 23 6 387 2 (.array (.object "OnceOnly$Ask")) true := ⟨3, _, _, _, fl_X6_23, rfl, rfl, by decide, by decide, rfl, by decide, by decide, rfl, by decide +kernel, ⟨tyX6, tyX6_ok⟩, nmX6, fun _ => rfl⟩
theorem g_X6_30 : om_G RX6 30 6 388 2 := ⟨4, fl_X6_30, rfl, rfl, by decide, by decide⟩
theorem p_X6_30 : om_PF RX6 30 6 388 2 (.object "OnceOnly$Row") true := ⟨4, _, _, _, fl_X6_30, rfl, rfl, by decide, by decide, rfl, by decide, by decide, rfl, by decide +kernel, ⟨tyX6, tyX6_ok⟩, nmX6, fun _ => rfl⟩
theorem g_X6_43 : om_G RX6 43 6 384 0 := ⟨0, fl_X6_43, rfl, rfl, by decide, by decide⟩
theorem p_X6_43 : om_PF RX6 43 6 384 0 .int true := ⟨0, _, _, _, fl_X6_43, rfl, rfl, by decide, by decide, rfl, by decide, by decide, rfl, by decide +kernel, ⟨tyX6, tyX6_ok⟩, nmX6, fun _ => rfl⟩
theorem g_X6_68 : om_G RX6 68 1 65 3 := ⟨1, fl_X6_68, rfl, rfl, by decide, by decide⟩
theorem p_X6_68 : om_PF RX6 68 1 65 3 .boolean false := ⟨1, _, _, _, fl_X6_68, rfl, rfl, by decide, by decide, rfl, by decide, by decide, rfl, by decide +kernel, ⟨tyX1, tyX1_ok⟩, nmX1, fun z => by cases z⟩
theorem g_X6_82 : om_G RX6 82 0 0 0 := ⟨0, fl_X6_82, rfl, rfl, by decide, by decide⟩
theorem g_X6_89 : om_G RX6 89 0 1 0 := ⟨1, fl_X6_89, rfl, rfl, by decide, by decide⟩
theorem g_X6_92 : om_G RX6 92 0 10 0 := ⟨10, fl_X6_92, rfl, rfl, by decide, by decide⟩
theorem p_X6_92 : om_PF RX6 92 0 10 0 .int false := ⟨10, _, _, _, fl_X6_92, rfl, rfl, by decide, by decide, rfl, by decide, by decide, rfl, by decide +kernel, ⟨tyX0, tyX0_ok⟩, nmX0, fun z => by cases z⟩
theorem g_X6_99 : om_G RX6 99 4 256 0 := ⟨0, fl_X6_99, rfl, rfl, by decide, by decide⟩
theorem p_X6_99 : om_PF RX6 99 4 256 0 .int false := ⟨0, _, _, _, fl_X6_99, rfl, rfl, by decide, by decide, rfl, by decide, by decide, rfl, by decide +kernel, ⟨tyX4, tyX4_ok⟩, nmX4, fun z => by cases z⟩
theorem g_X6_102 : om_G RX6 102 0 2 0 := ⟨2, fl_X6_102, rfl, rfl, by decide, by decide⟩
theorem g_X6_105 : om_G RX6 105 0 3 0 := ⟨3, fl_X6_105, rfl, rfl, by decide, by decide⟩
theorem g_X6_108 : om_G RX6 108 0 4 0 := ⟨4, fl_X6_108, rfl, rfl, by decide, by decide⟩
theorem p_X6_108 : om_PF RX6 108 0 4 0 .int false := ⟨4, _, _, _, fl_X6_108, rfl, rfl, by decide, by decide, rfl, by decide, by decide, rfl, by decide +kernel, ⟨tyX0, tyX0_ok⟩, nmX0, fun z => by cases z⟩
theorem g_X6_111 : om_G RX6 111 0 5 0 := ⟨5, fl_X6_111, rfl, rfl, by decide, by decide⟩
theorem p_X6_111 : om_PF RX6 111 0 5 0 .int false := ⟨5, _, _, _, fl_X6_111, rfl, rfl, by decide, by decide, rfl, by decide, by decide, rfl, by decide +kernel, ⟨tyX0, tyX0_ok⟩, nmX0, fun z => by cases z⟩
theorem g_X6_114 : om_G RX6 114 0 13 2 := ⟨13, fl_X6_114, rfl, rfl, by decide, by decide⟩
theorem p_X6_114 : om_PF RX6 114 0 13 2 (.object "OnceOnly$Ask") false := ⟨13, _, _, _, fl_X6_114, rfl, rfl, by decide, by decide, rfl, by decide, by decide, rfl, by decide +kernel, ⟨tyX0, tyX0_ok⟩, nmX0, fun z => by cases z⟩
theorem g_X6_122 : om_G RX6 122 0 14 2 := ⟨14, fl_X6_122, rfl, rfl, by decide, by decide⟩
theorem p_X6_122 : om_PF RX6 122 0 14 2 (.object "OnceOnly$Ask") false := ⟨14, _, _, _, fl_X6_122, rfl, rfl, by decide, by decide, rfl, by decide, by decide, rfl, by decide +kernel, ⟨tyX0, tyX0_ok⟩, nmX0, fun z => by cases z⟩
theorem g_X6_127 : om_G RX6 127 0 11 1 := ⟨11, fl_X6_127, rfl, rfl, by decide, by decide⟩
theorem p_X6_127 : om_PF RX6 127 0 11 1 .long false := ⟨11, _, _, _, fl_X6_127, rfl, rfl, by decide, by decide, rfl, by decide, by decide, rfl, by decide +kernel, ⟨tyX0, tyX0_ok⟩, nmX0, fun z => by cases z⟩
theorem g_X6_137 : om_G RX6 137 1 66 0 := ⟨2, fl_X6_137, rfl, rfl, by decide, by decide⟩
theorem p_X6_137 : om_PF RX6 137 1 66 0 .int false := ⟨2, _, _, _, fl_X6_137, rfl, rfl, by decide, by decide, rfl, by decide, by decide, rfl, by decide +kernel, ⟨tyX1, tyX1_ok⟩, nmX1, fun z => by cases z⟩
theorem g_X6_138 : om_G RX6 138 1 67 0 := ⟨3, fl_X6_138, rfl, rfl, by decide, by decide⟩
theorem p_X6_138 : om_PF RX6 138 1 67 0 .int false := ⟨3, _, _, _, fl_X6_138, rfl, rfl, by decide, by decide, rfl, by decide, by decide, rfl, by decide +kernel, ⟨tyX1, tyX1_ok⟩, nmX1, fun z => by cases z⟩
theorem g_X6_151 : om_G RX6 151 4 258 0 := ⟨2, fl_X6_151, rfl, rfl, by decide, by decide⟩
theorem p_X6_151 : om_PF RX6 151 4 258 0 .int false := ⟨2, _, _, _, fl_X6_151, rfl, rfl, by decide, by decide, rfl, by decide, by decide, rfl, by decide +kernel, ⟨tyX4, tyX4_ok⟩, nmX4, fun z => by cases z⟩
theorem g_X6_164 : om_G RX6 164 2 131 3 := ⟨3, fl_X6_164, rfl, rfl, by decide, by decide⟩
theorem p_X6_164 : om_PF RX6 164 2 131 3 .boolean false := ⟨3, _, _, _, fl_X6_164, rfl, rfl, by decide, by decide, rfl, by decide, by decide, rfl, by decide +kernel, ⟨tyX2, tyX2_ok⟩, nmX2, fun z => by cases z⟩
theorem g_X6_167 : om_G RX6 167 2 128 2 := ⟨0, fl_X6_167, rfl, rfl, by decide, by decide⟩
theorem p_X6_167 : om_PF RX6 167 2 128 2 (.object "OnceOnly$Ask") false := ⟨0, _, _, _, fl_X6_167, rfl, rfl, by decide, by decide, rfl, by decide, by decide, rfl, by decide +kernel, ⟨tyX2, tyX2_ok⟩, nmX2, fun z => by cases z⟩
theorem g_X6_170 : om_G RX6 170 2 129 3 := ⟨1, fl_X6_170, rfl, rfl, by decide, by decide⟩
theorem p_X6_170 : om_PF RX6 170 2 129 3 .boolean false := ⟨1, _, _, _, fl_X6_170, rfl, rfl, by decide, by decide, rfl, by decide, by decide, rfl, by decide +kernel, ⟨tyX2, tyX2_ok⟩, nmX2, fun z => by cases z⟩
theorem g_X6_173 : om_G RX6 173 2 132 0 := ⟨4, fl_X6_173, rfl, rfl, by decide, by decide⟩
theorem p_X6_173 : om_PF RX6 173 2 132 0 .int false := ⟨4, _, _, _, fl_X6_173, rfl, rfl, by decide, by decide, rfl, by decide, by decide, rfl, by decide +kernel, ⟨tyX2, tyX2_ok⟩, nmX2, fun z => by cases z⟩
theorem g_X6_176 : om_G RX6 176 2 130 3 := ⟨2, fl_X6_176, rfl, rfl, by decide, by decide⟩
theorem p_X6_176 : om_PF RX6 176 2 130 3 .boolean false := ⟨2, _, _, _, fl_X6_176, rfl, rfl, by decide, by decide, rfl, by decide, by decide, rfl, by decide +kernel, ⟨tyX2, tyX2_ok⟩, nmX2, fun z => by cases z⟩
theorem g_X6_183 : om_G RX6 183 1 64 0 := ⟨0, fl_X6_183, rfl, rfl, by decide, by decide⟩
theorem g_X6_195 : om_G RX6 195 3 193 0 := ⟨1, fl_X6_195, rfl, rfl, by decide, by decide⟩
theorem p_X6_195 : om_PF RX6 195 3 193 0 .int false := ⟨1, _, _, _, fl_X6_195, rfl, rfl, by decide, by decide, rfl, by decide, by decide, rfl, by decide +kernel, ⟨tyX3, tyX3_ok⟩, nmX3, fun z => by cases z⟩
theorem g_X6_198 : om_G RX6 198 3 194 0 := ⟨2, fl_X6_198, rfl, rfl, by decide, by decide⟩
theorem p_X6_198 : om_PF RX6 198 3 194 0 .int false := ⟨2, _, _, _, fl_X6_198, rfl, rfl, by decide, by decide, rfl, by decide, by decide, rfl, by decide +kernel, ⟨tyX3, tyX3_ok⟩, nmX3, fun z => by cases z⟩
theorem g_X6_201 : om_G RX6 201 3 195 0 := ⟨3, fl_X6_201, rfl, rfl, by decide, by decide⟩
theorem p_X6_201 : om_PF RX6 201 3 195 0 .int false := ⟨3, _, _, _, fl_X6_201, rfl, rfl, by decide, by decide, rfl, by decide, by decide, rfl, by decide +kernel, ⟨tyX3, tyX3_ok⟩, nmX3, fun z => by cases z⟩
theorem g_X6_213 : om_G RX6 213 0 12 3 := ⟨12, fl_X6_213, rfl, rfl, by decide, by decide⟩
theorem p_X6_213 : om_PF RX6 213 0 12 3 .boolean false := ⟨12, _, _, _, fl_X6_213, rfl, rfl, by decide, by decide, rfl, by decide, by decide, rfl, by decide +kernel, ⟨tyX0, tyX0_ok⟩, nmX0, fun z => by cases z⟩
theorem g_X6_229 : om_G RX6 229 6 389 0 := ⟨5, fl_X6_229, rfl, rfl, by decide, by decide⟩
theorem p_X6_229 : om_PF RX6 229 6 389 0 .int false := ⟨5, _, _, _, fl_X6_229, rfl, rfl, by decide, by decide, rfl, by decide, by decide, rfl, by decide +kernel, ⟨tyX6, tyX6_ok⟩, nmX6, fun _ => rfl⟩
theorem g_X6_235 : om_G RX6 235 4 257 0 := ⟨1, fl_X6_235, rfl, rfl, by decide, by decide⟩
theorem p_X6_235 : om_PF RX6 235 4 257 0 .int false := ⟨1, _, _, _, fl_X6_235, rfl, rfl, by decide, by decide, rfl, by decide, by decide, rfl, by decide +kernel, ⟨tyX4, tyX4_ok⟩, nmX4, fun z => by cases z⟩
theorem g_X6_238 : om_G RX6 238 6 390 0 := ⟨6, fl_X6_238, rfl, rfl, by decide, by decide⟩
theorem p_X6_238 : om_PF RX6 238 6 390 0 .int false := ⟨6, _, _, _, fl_X6_238, rfl, rfl, by decide, by decide, rfl, by decide, by decide, rfl, by decide +kernel, ⟨tyX6, tyX6_ok⟩, nmX6, fun _ => rfl⟩
theorem g_X6_252 : om_G RX6 252 0 6 0 := ⟨6, fl_X6_252, rfl, rfl, by decide, by decide⟩
theorem p_X6_252 : om_PF RX6 252 0 6 0 .int false := ⟨6, _, _, _, fl_X6_252, rfl, rfl, by decide, by decide, rfl, by decide, by decide, rfl, by decide +kernel, ⟨tyX0, tyX0_ok⟩, nmX0, fun z => by cases z⟩
theorem g_X6_255 : om_G RX6 255 0 7 0 := ⟨7, fl_X6_255, rfl, rfl, by decide, by decide⟩
theorem p_X6_255 : om_PF RX6 255 0 7 0 .int false := ⟨7, _, _, _, fl_X6_255, rfl, rfl, by decide, by decide, rfl, by decide, by decide, rfl, by decide +kernel, ⟨tyX0, tyX0_ok⟩, nmX0, fun z => by cases z⟩
theorem g_X6_258 : om_G RX6 258 0 8 0 := ⟨8, fl_X6_258, rfl, rfl, by decide, by decide⟩
theorem p_X6_258 : om_PF RX6 258 0 8 0 .int false := ⟨8, _, _, _, fl_X6_258, rfl, rfl, by decide, by decide, rfl, by decide, by decide, rfl, by decide +kernel, ⟨tyX0, tyX0_ok⟩, nmX0, fun z => by cases z⟩
theorem g_X6_261 : om_G RX6 261 0 9 0 := ⟨9, fl_X6_261, rfl, rfl, by decide, by decide⟩
theorem p_X6_261 : om_PF RX6 261 0 9 0 .int false := ⟨9, _, _, _, fl_X6_261, rfl, rfl, by decide, by decide, rfl, by decide, by decide, rfl, by decide +kernel, ⟨tyX0, tyX0_ok⟩, nmX0, fun z => by cases z⟩
theorem g_X6_289 : om_G RX6 289 2 133 1 := ⟨5, fl_X6_289, rfl, rfl, by decide, by decide⟩
theorem p_X6_289 : om_PF RX6 289 2 133 1 .long false := ⟨5, _, _, _, fl_X6_289, rfl, rfl, by decide, by decide, rfl, by decide, by decide, rfl, by decide +kernel, ⟨tyX2, tyX2_ok⟩, nmX2, fun z => by cases z⟩
theorem g_X7_7 : om_G RX7 7 7 449 2 := ⟨1, fl_X7_7, rfl, rfl, by decide, by decide⟩
theorem p_X7_7 : om_PF RX7 7 7 449 2 (.array .boolean) true := ⟨1, _, _, _, fl_X7_7, rfl, rfl, by decide, by decide, rfl, by decide, by decide, rfl, by decide +kernel, ⟨tyX7, tyX7_ok⟩, nmX7, fun _ => rfl⟩
theorem g_X7_13 : om_G RX7 13 7 450 2 := ⟨2, fl_X7_13, rfl, rfl, by decide, by decide⟩
theorem p_X7_13 : om_PF RX7 13 7 450 2 (.array .int) true := ⟨2, _, _, _, fl_X7_13, rfl, rfl, by decide, by decide, rfl, by decide, by decide, rfl, by decide +kernel, ⟨tyX7, tyX7_ok⟩, nmX7, fun _ => rfl⟩
theorem g_X7_17 : om_G RX7 17 7 451 2 := ⟨3, fl_X7_17, rfl, rfl, by decide, by decide⟩
theorem p_X7_17 : om_PF RX7 17 7 451 2 (.array .int) true := ⟨3, _, _, _, fl_X7_17, rfl, rfl, by decide, by decide, rfl, by decide, by decide, rfl, by decide +kernel, ⟨tyX7, tyX7_ok⟩, nmX7, fun _ => rfl⟩
theorem g_X7_20 : om_G RX7 20 7 452 2 := ⟨4, fl_X7_20, rfl, rfl, by decide, by decide⟩
theorem p_X7_20 : om_PF RX7 20 7 452 2 (.array .long) true := ⟨4, _, _, _, fl_X7_20, rfl, rfl, by decide, by decide, rfl, by decide, by decide, rfl, by decide +kernel, ⟨tyX7, tyX7_ok⟩, nmX7, fun _ => rfl⟩
theorem g_X7_24 : om_G RX7 24 7 454 2 := ⟨6, fl_X7_24, rfl, rfl, by decide, by decide⟩
theorem p_X7_24 : om_PF RX7 24 7 454 2 (.array .int) true := ⟨6, _, _, _, fl_X7_24, rfl, rfl, by decide, by decide, rfl, by decide, by decide, rfl, by decide +kernel, ⟨tyX7, tyX7_ok⟩, nmX7, fun _ => rfl⟩
theorem g_X7_27 : om_G RX7 27 7 455 2 := ⟨7, fl_X7_27, rfl, rfl, by decide, by decide⟩
theorem p_X7_27 : om_PF RX7 27 7 455 2 (.array .int) true := ⟨7, _, _, _, fl_X7_27, rfl, rfl, by decide, by decide, rfl, by decide, by decide, rfl, by decide +kernel, ⟨tyX7, tyX7_ok⟩, nmX7, fun _ => rfl⟩
theorem g_X7_30 : om_G RX7 30 7 456 2 := ⟨8, fl_X7_30, rfl, rfl, by decide, by decide⟩
theorem p_X7_30 : om_PF RX7 30 7 456 2 (.array .int) true := ⟨8, _, _, _, fl_X7_30, rfl, rfl, by decide, by decide, rfl, by decide, by decide, rfl, by decide +kernel, ⟨tyX7, tyX7_ok⟩, nmX7, fun _ => rfl⟩
theorem g_X7_33 : om_G RX7 33 7 457 2 := ⟨9, fl_X7_33, rfl, rfl, by decide, by decide⟩
theorem p_X7_33 : om_PF RX7 33 7 457 2 (.array .int) true := ⟨9, _, _, _, fl_X7_33, rfl, rfl, by decide, by decide, rfl, by decide, by decide, rfl, by decide +kernel, ⟨tyX7, tyX7_ok⟩, nmX7, fun _ => rfl⟩
theorem g_X7_36 : om_G RX7 36 7 458 2 := ⟨10, fl_X7_36, rfl, rfl, by decide, by decide⟩
theorem p_X7_36 : om_PF RX7 36 7 458 2 (.array .int) true := ⟨10, _, _, _, fl_X7_36, rfl, rfl, by decide, by decide, rfl, by decide, by decide, rfl, by decide +kernel, ⟨tyX7, tyX7_ok⟩, nmX7, fun _ => rfl⟩
theorem g_X7_39 : om_G RX7 39 7 459 2 := ⟨11, fl_X7_39, rfl, rfl, by decide, by decide⟩
theorem p_X7_39 : om_PF RX7 39 7 459 2 (.array .int) true := ⟨11, _, _, _, fl_X7_39, rfl, rfl, by decide, by decide, rfl, by decide, by decide, rfl, by decide +kernel, ⟨tyX7, tyX7_ok⟩, nmX7, fun _ => rfl⟩
theorem g_X7_42 : om_G RX7 42 7 460 2 := ⟨12, fl_X7_42, rfl, rfl, by decide, by decide⟩
theorem p_X7_42 : om_PF RX7 42 7 460 2 (.array .int) true := ⟨12, _, _, _, fl_X7_42, rfl, rfl, by decide, by decide, rfl, by decide, by decide, rfl, by decide +kernel, ⟨tyX7, tyX7_ok⟩, nmX7, fun _ => rfl⟩
theorem g_X7_45 : om_G RX7 45 7 461 2 := ⟨13, fl_X7_45, rfl, rfl, by decide, by decide⟩
theorem p_X7_45 : om_PF RX7 45 7 461 2 (.array .int) true := ⟨13, _, _, _, fl_X7_45, rfl, rfl, by decide, by decide, rfl, by decide, by decide, rfl, by decide +kernel, ⟨tyX7, tyX7_ok⟩, nmX7, fun _ => rfl⟩
theorem g_X7_48 : om_G RX7 48 7 462 2 := ⟨14, fl_X7_48, rfl, rfl, by decide, by decide⟩
theorem p_X7_48 : om_PF RX7 48 7 462 2 (.array .int) true := ⟨14, _, _, _, fl_X7_48, rfl, rfl, by decide, by decide, rfl, by decide, by decide, rfl, by decide +kernel, ⟨tyX7, tyX7_ok⟩, nmX7, fun _ => rfl⟩
theorem g_X7_51 : om_G RX7 51 7 463 2 := ⟨15, fl_X7_51, rfl, rfl, by decide, by decide⟩
theorem p_X7_51 : om_PF RX7 51 7 463 2 (.array .int) true := ⟨15, _, _, _, fl_X7_51, rfl, rfl, by decide, by decide, rfl, by decide, by decide, rfl, by decide +kernel, ⟨tyX7, tyX7_ok⟩, nmX7, fun _ => rfl⟩
theorem g_X7_54 : om_G RX7 54 7 464 2 := ⟨16, fl_X7_54, rfl, rfl, by decide, by decide⟩
theorem p_X7_54 : om_PF RX7 54 7 464 2 (.array .long) true := ⟨16, _, _, _, fl_X7_54, rfl, rfl, by decide, by decide, rfl, by decide, by decide, rfl, by decide +kernel, ⟨tyX7, tyX7_ok⟩, nmX7, fun _ => rfl⟩
theorem g_X7_57 : om_G RX7 57 7 465 2 := ⟨17, fl_X7_57, rfl, rfl, by decide, by decide⟩
theorem p_X7_57 : om_PF RX7 57 7 465 2 (.array .int) true := ⟨17, _, _, _, fl_X7_57, rfl, rfl, by decide, by decide, rfl, by decide, by decide, rfl, by decide +kernel, ⟨tyX7, tyX7_ok⟩, nmX7, fun _ => rfl⟩
theorem g_X7_60 : om_G RX7 60 7 466 2 := ⟨18, fl_X7_60, rfl, rfl, by decide, by decide⟩
theorem p_X7_60 : om_PF RX7 60 7 466 2 (.array .int) true := ⟨18, _, _, _, fl_X7_60, rfl, rfl, by decide, by decide, rfl, by decide, by decide, rfl, by decide +kernel, ⟨tyX7, tyX7_ok⟩, nmX7, fun _ => rfl⟩
theorem g_X7_63 : om_G RX7 63 7 467 2 := ⟨19, fl_X7_63, rfl, rfl, by decide, by decide⟩
theorem p_X7_63 : om_PF RX7 63 7 467 2 (.array .boolean) true := ⟨19, _, _, _, fl_X7_63, rfl, rfl, by decide, by decide, rfl, by decide, by decide, rfl, by decide +kernel, ⟨tyX7, tyX7_ok⟩, nmX7, fun _ => rfl⟩
theorem g_X7_66 : om_G RX7 66 7 469 2 := ⟨21, fl_X7_66, rfl, rfl, by decide, by decide⟩
theorem p_X7_66 : om_PF RX7 66 7 469 2 (.array .int) true := ⟨21, _, _, _, fl_X7_66, rfl, rfl, by decide, by decide, rfl, by decide, by decide, rfl, by decide +kernel, ⟨tyX7, tyX7_ok⟩, nmX7, fun _ => rfl⟩
theorem g_X7_69 : om_G RX7 69 7 470 2 := ⟨22, fl_X7_69, rfl, rfl, by decide, by decide⟩
theorem p_X7_69 : om_PF RX7 69 7 470 2 (.array .boolean) true := ⟨22, _, _, _, fl_X7_69, rfl, rfl, by decide, by decide, rfl, by decide, by decide, rfl, by decide +kernel, ⟨tyX7, tyX7_ok⟩, nmX7, fun _ => rfl⟩
theorem g_X7_72 : om_G RX7 72 7 471 2 := ⟨23, fl_X7_72, rfl, rfl, by decide, by decide⟩
theorem p_X7_72 : om_PF RX7 72 7 471 2 (.array .int) true := ⟨23, _, _, _, fl_X7_72, rfl, rfl, by decide, by decide, rfl, by decide, by decide, rfl, by decide +kernel, ⟨tyX7, tyX7_ok⟩, nmX7, fun _ => rfl⟩
theorem g_X7_75 : om_G RX7 75 7 472 2 := ⟨24, fl_X7_75, rfl, rfl, by decide, by decide⟩
theorem p_X7_75 : om_PF RX7 75 7 472 2 (.array .long) true := ⟨24, _, _, _, fl_X7_75, rfl, rfl, by decide, by decide, rfl, by decide, by decide, rfl, by decide +kernel, ⟨tyX7, tyX7_ok⟩, nmX7, fun _ => rfl⟩
theorem g_X7_78 : om_G RX7 78 7 473 2 := ⟨25, fl_X7_78, rfl, rfl, by decide, by decide⟩
theorem p_X7_78 : om_PF RX7 78 7 473 2 (.array .boolean) true := ⟨25, _, _, _, fl_X7_78, rfl, rfl, by decide, by decide, rfl, by decide, by decide, rfl, by decide +kernel, ⟨tyX7, tyX7_ok⟩, nmX7, fun _ => rfl⟩
theorem g_X7_81 : om_G RX7 81 7 474 2 := ⟨26, fl_X7_81, rfl, rfl, by decide, by decide⟩
theorem p_X7_81 : om_PF RX7 81 7 474 2 (.array .int) true := ⟨26, _, _, _, fl_X7_81, rfl, rfl, by decide, by decide, rfl, by decide, by decide, rfl, by decide +kernel, ⟨tyX7, tyX7_ok⟩, nmX7, fun _ => rfl⟩
theorem g_X7_84 : om_G RX7 84 7 475 2 := ⟨27, fl_X7_84, rfl, rfl, by decide, by decide⟩
theorem p_X7_84 : om_PF RX7 84 7 475 2 (.array .int) true := ⟨27, _, _, _, fl_X7_84, rfl, rfl, by decide, by decide, rfl, by decide, by decide, rfl, by decide +kernel, ⟨tyX7, tyX7_ok⟩, nmX7, fun _ => rfl⟩
theorem g_X7_87 : om_G RX7 87 7 477 2 := ⟨29, fl_X7_87, rfl, rfl, by decide, by decide⟩
theorem p_X7_87 : om_PF RX7 87 7 477 2 (.array .int) true := ⟨29, _, _, _, fl_X7_87, rfl, rfl, by decide, by decide, rfl, by decide, by decide, rfl, by decide +kernel, ⟨tyX7, tyX7_ok⟩, nmX7, fun _ => rfl⟩
theorem g_X7_90 : om_G RX7 90 7 478 2 := ⟨30, fl_X7_90, rfl, rfl, by decide, by decide⟩
theorem p_X7_90 : om_PF RX7 90 7 478 2 (.array .int) true := ⟨30, _, _, _, fl_X7_90, rfl, rfl, by decide, by decide, rfl, by decide, by decide, rfl, by decide +kernel, ⟨tyX7, tyX7_ok⟩, nmX7, fun _ => rfl⟩
theorem g_X7_93 : om_G RX7 93 7 479 2 := ⟨31, fl_X7_93, rfl, rfl, by decide, by decide⟩
theorem p_X7_93 : om_PF RX7 93 7 479 2 (.array .int) true := ⟨31, _, _, _, fl_X7_93, rfl, rfl, by decide, by decide, rfl, by decide, by decide, rfl, by decide +kernel, ⟨tyX7, tyX7_ok⟩, nmX7, fun _ => rfl⟩
theorem g_X7_96 : om_G RX7 96 7 480 2 := ⟨32, fl_X7_96, rfl, rfl, by decide, by decide⟩
theorem p_X7_96 : om_PF RX7 96 7 480 2 (.array .long) true := ⟨32, _, _, _, fl_X7_96, rfl, rfl, by decide, by decide, rfl, by decide, by decide, rfl, by decide +kernel, ⟨tyX7, tyX7_ok⟩, nmX7, fun _ => rfl⟩
theorem g_X7_99 : om_G RX7 99 7 481 2 := ⟨33, fl_X7_99, rfl, rfl, by decide, by decide⟩
theorem p_X7_99 : om_PF RX7 99 7 481 2 (.array .int) true := ⟨33, _, _, _, fl_X7_99, rfl, rfl, by decide, by decide, rfl, by decide, by decide, rfl, by decide +kernel, ⟨tyX7, tyX7_ok⟩, nmX7, fun _ => rfl⟩
theorem g_X7_102 : om_G RX7 102 7 448 0 := ⟨0, fl_X7_102, rfl, rfl, by decide, by decide⟩
theorem p_X7_102 : om_PF RX7 102 7 448 0 .int true := ⟨0, _, _, _, fl_X7_102, rfl, rfl, by decide, by decide, rfl, by decide, by decide, rfl, by decide +kernel, ⟨tyX7, tyX7_ok⟩, nmX7, fun _ => rfl⟩
theorem g_X7_106 : om_G RX7 106 7 453 0 := ⟨5, fl_X7_106, rfl, rfl, by decide, by decide⟩
theorem p_X7_106 : om_PF RX7 106 7 453 0 .int false := ⟨5, _, _, _, fl_X7_106, rfl, rfl, by decide, by decide, rfl, by decide, by decide, rfl, by decide +kernel, ⟨tyX7, tyX7_ok⟩, nmX7, fun _ => rfl⟩
theorem g_X7_117 : om_G RX7 117 7 485 3 := ⟨37, fl_X7_117, rfl, rfl, by decide, by decide⟩
theorem p_X7_117 : om_PF RX7 117 7 485 3 .boolean false := ⟨37, _, _, _, fl_X7_117, rfl, rfl, by decide, by decide, rfl, by decide, by decide, rfl, by decide +kernel, ⟨tyX7, tyX7_ok⟩, nmX7, fun _ => rfl⟩
theorem g_X7_121 : om_G RX7 121 7 486 0 := ⟨38, fl_X7_121, rfl, rfl, by decide, by decide⟩
theorem p_X7_121 : om_PF RX7 121 7 486 0 .int false := ⟨38, _, _, _, fl_X7_121, rfl, rfl, by decide, by decide, rfl, by decide, by decide, rfl, by decide +kernel, ⟨tyX7, tyX7_ok⟩, nmX7, fun _ => rfl⟩
theorem g_X7_124 : om_G RX7 124 7 468 0 := ⟨20, fl_X7_124, rfl, rfl, by decide, by decide⟩
theorem p_X7_124 : om_PF RX7 124 7 468 0 .int false := ⟨20, _, _, _, fl_X7_124, rfl, rfl, by decide, by decide, rfl, by decide, by decide, rfl, by decide +kernel, ⟨tyX7, tyX7_ok⟩, nmX7, fun _ => rfl⟩
theorem g_X7_127 : om_G RX7 127 7 483 0 := ⟨35, fl_X7_127, rfl, rfl, by decide, by decide⟩
theorem p_X7_127 : om_PF RX7 127 7 483 0 .int false := ⟨35, _, _, _, fl_X7_127, rfl, rfl, by decide, by decide, rfl, by decide, by decide, rfl, by decide +kernel, ⟨tyX7, tyX7_ok⟩, nmX7, fun _ => rfl⟩
theorem g_X7_166 : om_G RX7 166 7 476 0 := ⟨28, fl_X7_166, rfl, rfl, by decide, by decide⟩
theorem p_X7_166 : om_PF RX7 166 7 476 0 .int false := ⟨28, _, _, _, fl_X7_166, rfl, rfl, by decide, by decide, rfl, by decide, by decide, rfl, by decide +kernel, ⟨tyX7, tyX7_ok⟩, nmX7, fun _ => rfl⟩
theorem g_X7_212 : om_G RX7 212 7 487 3 := ⟨39, fl_X7_212, rfl, rfl, by decide, by decide⟩
theorem p_X7_212 : om_PF RX7 212 7 487 3 .boolean false := ⟨39, _, _, _, fl_X7_212, rfl, rfl, by decide, by decide, rfl, by decide, by decide, rfl, by decide +kernel, ⟨tyX7, tyX7_ok⟩, nmX7, fun _ => rfl⟩
theorem g_X7_215 : om_G RX7 215 7 484 0 := ⟨36, fl_X7_215, rfl, rfl, by decide, by decide⟩
theorem p_X7_215 : om_PF RX7 215 7 484 0 .int false := ⟨36, _, _, _, fl_X7_215, rfl, rfl, by decide, by decide, rfl, by decide, by decide, rfl, by decide +kernel, ⟨tyX7, tyX7_ok⟩, nmX7, fun _ => rfl⟩
theorem g_X7_222 : om_G RX7 222 7 482 0 := ⟨34, fl_X7_222, rfl, rfl, by decide, by decide⟩
theorem p_X7_222 : om_PF RX7 222 7 482 0 .int false := ⟨34, _, _, _, fl_X7_222, rfl, rfl, by decide, by decide, rfl, by decide, by decide, rfl, by decide +kernel, ⟨tyX7, tyX7_ok⟩, nmX7, fun _ => rfl⟩
end
section
section JA
variable {x : om_x} {r : om_r} {k : om_k} {pc : Nat} {L : List (Nat × Value)} {st : List Value} {h : Hp} {c sl : Nat}
theorem om_X.arr {p : Program} {s : State} {mi : MethodId} {args : Array Value} {meth : Method} {cd : Code} (X : om_X x k p s mi args meth cd) {q : Nat} (hq : q < 8) : ArrOfT s (x.2.2.1 q) (aT q) ∧ va_RA s (x.2.2.1 q) (aT q) := X.2.2.2.2.2.1.1.2 q _ (om_tys_at x hq)
theorem kOf_lt (t : Nat) : kOf t < 8 := Nat.mod_lt _ (by decide)
theorem J_iald {a t j : Nat} {i : Int32} (hd : decode k.2.1 pc = .ok (.iaload, 1)) (hk : hK h a = t) (ht : 16 ≤ t ∧ kOf t = 0) (hi : inx i j (hN h a)) (kk : J x r k (pc + 1) L (.int (aI h t a j) :: st) h c sl) : J x r k pc L (.int i :: .ref a :: st) h c sl := by
  intro p e s mi args below meth cd H locs ls X hH hS hL
  have h1 := hH.arr hk ht.1
  have e1 : cont h t a = .inl (aI h t a) := by unfold cont; rw [if_neg (by omega), if_neg (by omega)]
  rw [e1] at h1
  have hA := (X.arr (kOf_lt t)).1
  rw [ht.2] at hA h1
  refine W.iald (v := .int (aI h t a j)) X.1 X.2.1 h1 (hA (hN h a) (fun j => .int (aI h t a j))) (fun q => by cases q) (by show ¬ (i < 0 ∨ (arrV _ _ _).slots.size ≤ _); rw [arrV_size]; exact hi.vp) (by rw [hi.1]; show (arrV _ _ _).slots[_]? = _; rw [arrV_read _ _ hi.2.2]) rfl rfl hd ?_
  exact kk p e s mi args below meth cd H locs ls X hH hS hL
theorem J_zald {a t j : Nat} {i : Int32} (hd : decode k.2.1 pc = .ok (.baload, 1)) (hk : hK h a = t) (ht : 16 ≤ t ∧ kOf t = 2) (hi : inx i j (hN h a)) (kk : J x r k (pc + 1) L (.int (aI h t a j) :: st) h c sl) : J x r k pc L (.int i :: .ref a :: st) h c sl := by
  intro p e s mi args below meth cd H locs ls X hH hS hL
  have h1 := hH.arr hk ht.1
  have e1 : cont h t a = .inl (aI h t a) := by unfold cont; rw [if_neg (by omega), if_neg (by omega)]
  rw [e1] at h1
  have hA := (X.arr (kOf_lt t)).1
  rw [ht.2] at hA h1
  refine W.zald (v := .int (aI h t a j)) X.1 X.2.1 h1 (hA (hN h a) (fun j => .int (aI h t a j))) (fun q => by cases q) (by show ¬ (i < 0 ∨ (arrV _ _ _).slots.size ≤ _); rw [arrV_size]; exact hi.vp) (by rw [hi.1]; show (arrV _ _ _).slots[_]? = _; rw [arrV_read _ _ hi.2.2]) rfl rfl hd ?_
  exact kk p e s mi args below meth cd H locs ls X hH hS hL
theorem J_lald {a t j : Nat} {i : Int32} (hd : decode k.2.1 pc = .ok (.laload, 1)) (hk : hK h a = t) (ht : 16 ≤ t ∧ kOf t = 1) (hi : inx i j (hN h a)) (kk : J x r k (pc + 1) L (.long (aJ h t a j) :: st) h c sl) : J x r k pc L (.int i :: .ref a :: st) h c sl := by
  intro p e s mi args below meth cd H locs ls X hH hS hL
  have h1 := hH.arr hk ht.1
  have e1 : cont h t a = .inr (.inl (aJ h t a)) := by unfold cont; rw [if_pos ht.2]
  rw [e1] at h1
  have hA := (X.arr (kOf_lt t)).1
  rw [ht.2] at hA h1
  refine W.lald (v := .long (aJ h t a j)) X.1 X.2.1 h1 (hA (hN h a) (fun j => .long (aJ h t a j))) (fun q => by cases q) (by show ¬ (i < 0 ∨ (arrV _ _ _).slots.size ≤ _); rw [arrV_size]; exact hi.vp) (by rw [hi.1]; show (arrV _ _ _).slots[_]? = _; rw [arrV_read _ _ hi.2.2]) rfl rfl hd ?_
  exact kk p e s mi args below meth cd H locs ls X hH hS hL
theorem aT_ref {q : Nat} (h1 : 3 ≤ q) : ∃ C, aT q = .object C := by
  unfold aT
  rw [if_neg (by omega), if_neg (by omega), if_neg (by omega)]
  (repeat' split) <;> exact ⟨_, rfl⟩
theorem J_aald {a t j : Nat} {i : Int32} {u : Option Nat} (hd : decode k.2.1 pc = .ok (.aaload, 1)) (hk : hK h a = t) (ht : 16 ≤ t ∧ 3 ≤ kOf t) (hi : inx i j (hN h a)) (hu : aR h t a j = u) (kk : J x r k (pc + 1) L (va_rf u :: st) h c sl) : J x r k pc L (.int i :: .ref a :: st) h c sl := by
  intro p e s mi args below meth cd H locs ls X hH hS hL
  subst hu
  have h1 := hH.arr hk ht.1
  have e1 : cont h t a = .inr (.inr (.inr (.inr (aR h t a)))) := by unfold cont; rw [if_neg (by omega), if_pos ht.2]
  rw [e1] at h1
  have hA := (X.arr (kOf_lt t)).1
  obtain ⟨C, hC⟩ := aT_ref ht.2
  rw [hC] at hA
  refine W.aald (v := va_rf (aR h t a j)) (ty := .object C) X.1 X.2.1 h1 (hA (hN h a) (fun j => va_rf (aR h t a j))) rfl (fun q => by cases q) (by show ¬ (i < 0 ∨ (arrV _ _ _).slots.size ≤ _); rw [arrV_size]; exact hi.vp) (by rw [hi.1]; show (arrV _ _ _).slots[_]? = _; rw [arrV_read _ _ hi.2.2]) rfl rfl hd ?_
  exact kk p e s mi args below meth cd H locs ls X hH hS hL
theorem J_aaldr {a t j b : Nat} {i : Int32} (hd : decode k.2.1 pc = .ok (.aaload, 1)) (hk : hK h a = t) (ht : 16 ≤ t ∧ 3 ≤ kOf t) (hi : inx i j (hN h a)) (hu : aR h t a j = some b) (kk : J x r k (pc + 1) L (.ref b :: st) h c sl) : J x r k pc L (.int i :: .ref a :: st) h c sl := J_aald hd hk ht hi hu kk
theorem J_iast {a t j : Nat} {i v : Int32} (hd : decode k.2.1 pc = .ok (.iastore, 1)) (hk : hK h a = t) (ht : 16 ≤ t ∧ kOf t = 0) (hi : inx i j (hN h a)) (kk : J x r k (pc + 1) L st (tI h t a j v) c sl) : J x r k pc L (.int v :: .int i :: .ref a :: st) h c sl := by
  intro p e s mi args below meth cd H locs ls X hH hS hL
  have h1 := hH.arr hk ht.1
  have e1 : cont h t a = .inl (aI h t a) := by unfold cont; rw [if_neg (by omega), if_neg (by omega)]
  rw [e1] at h1
  have hA := (X.arr (kOf_lt t)).1
  rw [ht.2] at hA
  have hA2 := hA (hN h a) (fun j => .int (aI h t a j))
  refine W.iast X.1 X.2.1 h1 (by rw [ht.2]; exact hA2) (fun q => by cases q) (by show ¬ (i < 0 ∨ (arrV _ _ _).slots.size ≤ _); rw [arrV_size]; exact hi.vp) rfl rfl hd fun H1 e z oq => ?_
  rw [hi.1, vp_cell_i, arrV_store] at e
  exact kk p _ s mi args below meth cd H1 _ ls X (om_tI hH hk ht.1 (Or.inl ht.2) e oq) (hS.put z oq (hH a (by omega)).1) hL
theorem J_zast {a t j : Nat} {i v : Int32} (hd : decode k.2.1 pc = .ok (.bastore, 1)) (hk : hK h a = t) (ht : 16 ≤ t ∧ kOf t = 2) (hi : inx i j (hN h a)) (hv : v = 0 ∨ v = 1) (kk : J x r k (pc + 1) L st (tI h t a j v) c sl) : J x r k pc L (.int v :: .int i :: .ref a :: st) h c sl := by
  intro p e s mi args below meth cd H locs ls X hH hS hL
  have h1 := hH.arr hk ht.1
  have e1 : cont h t a = .inl (aI h t a) := by unfold cont; rw [if_neg (by omega), if_neg (by omega)]
  rw [e1] at h1
  have hA := (X.arr (kOf_lt t)).1
  rw [ht.2] at hA
  have hA2 := hA (hN h a) (fun j => .int (aI h t a j))
  refine W.zast X.1 X.2.1 h1 (by rw [ht.2]; exact hA2) (fun q => by cases q) (by show ¬ (i < 0 ∨ (arrV _ _ _).slots.size ≤ _); rw [arrV_size]; exact hi.vp) rfl rfl hd fun H1 e z oq => ?_
  have en : narrow .boolean (.int v) = .int v := by rcases hv with rfl | rfl <;> rfl
  rw [hi.1, en, vp_cell_i, arrV_store] at e
  exact kk p _ s mi args below meth cd H1 _ ls X (om_tI hH hk ht.1 (Or.inr ht.2) e oq) (hS.put z oq (hH a (by omega)).1) hL
theorem J_last {a t j : Nat} {i : Int32} {v : Int64} (hd : decode k.2.1 pc = .ok (.lastore, 1)) (hk : hK h a = t) (ht : 16 ≤ t ∧ kOf t = 1) (hi : inx i j (hN h a)) (kk : J x r k (pc + 1) L st (tJ h t a j v) c sl) : J x r k pc L (.long v :: .int i :: .ref a :: st) h c sl := by
  intro p e s mi args below meth cd H locs ls X hH hS hL
  have h1 := hH.arr hk ht.1
  have e1 : cont h t a = .inr (.inl (aJ h t a)) := by unfold cont; rw [if_pos ht.2]
  rw [e1] at h1
  have hA := (X.arr (kOf_lt t)).1
  rw [ht.2] at hA
  have hA2 := hA (hN h a) (fun j => .long (aJ h t a j))
  refine W.last X.1 X.2.1 h1 (by rw [ht.2]; exact hA2) (fun q => by cases q) (by show ¬ (i < 0 ∨ (arrV _ _ _).slots.size ≤ _); rw [arrV_size]; exact hi.vp) rfl rfl hd fun H1 e z oq => ?_
  rw [hi.1, vp_cell_l, arrV_store] at e
  exact kk p _ s mi args below meth cd H1 _ ls X (om_tJ hH hk ht.1 ht.2 e oq) (hS.put z oq (hH a (by omega)).1) hL
/-- the row of the class whose objects an array of kind q holds -/
def eC (q : Nat) : Nat := if q = 3 then 0 else if q = 4 then 1 else if q = 5 then 2 else if q = 6 then 3 else 5
theorem eC_ok {q : Nat} (h1 : 3 ≤ q) (h2 : q < 8) : ∃ (r : vw_C), vwCl[eC q]? = some r ∧ aT q = .object r.1 ∧ eC q < 15 := by
  rcases (by omega : q = 3 ∨ q = 4 ∨ q = 5 ∨ q = 6 ∨ q = 7) with rfl | rfl | rfl | rfl | rfl <;> exact ⟨_, rfl, rfl, by decide⟩
theorem J_aast {a t j b : Nat} {i : Int32} (hd : decode k.2.1 pc = .ok (.aastore, 1)) (hk : hK h a = t) (ht : 16 ≤ t ∧ 3 ≤ kOf t) (hi : inx i j (hN h a)) (hb : hK h b = eC (kOf t) + 1) (kk : J x r k (pc + 1) L st (tR h t a j (some b)) c sl) : J x r k pc L (.ref b :: .int i :: .ref a :: st) h c sl := by
  intro p e s mi args below meth cd H locs ls X hH hS hL
  have h1 := hH.arr hk ht.1
  have e1 : cont h t a = .inr (.inr (.inr (.inr (aR h t a)))) := by unfold cont; rw [if_neg (by omega), if_pos ht.2]
  rw [e1] at h1
  obtain ⟨rr, hr1, hr2, hr3⟩ := eC_ok ht.2 (kOf_lt t)
  obtain ⟨r', hr', cellV, g1, g2, g3, -⟩ := hH.obj hb hr3
  have hcls := (X.2.2.2.2.2.1.1.1 _ rr hr1).2
  have hA := X.arr (kOf_lt t)
  rw [hr2] at hA
  obtain ⟨kA, comp, k1, k2, k3, -⟩ := hA.2
  have hcomp : comp = x.2.1.1 (eC (kOf t)) := Option.some.inj (k3.symm.trans hcls.1)
  subst hcomp
  obtain ⟨kC, hkC, -⟩ := hcls.2
  refine W.aast X.1 X.2.1 h1 (fun q h => by cases h) (fun h => by cases h) k1 k2 rfl hkC ⟨hi.2.1, by show _ < (arrV _ _ _).slots.size; rw [arrV_size, hi.1]; exact hi.2.2⟩ g1 (fun q h => by rw [g3] at h; cases h) (by rw [g2]; exact hkC) (by rw [g2]; exact va_assign hcls) rfl rfl hd fun H1 e z oq => ?_
  rw [hi.1, vp_cell_q, arrV_store] at e
  exact kk p _ s mi args below meth cd H1 _ ls X (om_tR hH hk ht.1 ht.2 e oq) (hS.put z oq (hH a (by omega)).1) hL
theorem J_alen {a t : Nat} {v : Int32} (hd : decode k.2.1 pc = .ok (.arraylength, 1)) (hk : hK h a = t) (ht : 16 ≤ t) (hv : nI (hN h a) = v) (kk : J x r k (pc + 1) L (.int v :: st) h c sl) : J x r k pc L (.ref a :: st) h c sl := by
  intro p e s mi args below meth cd H locs ls X hH hS hL
  subst hv
  have h1 := hH.arr hk ht
  have hA := (X.arr (kOf_lt t)).1
  have kk := kk p e s mi args below meth cd H locs ls X hH hS hL
  unfold cont at h1
  split at h1
  · exact W.alen (n := Int32.ofNat (hN h a)) X.1 X.2.1 h1 (hA (hN h a) (fun j => .long (aJ h t a j))) (by rw [vp_cell_l, arrV_size] <;> rfl) rfl rfl hd kk
  · split at h1
    · exact W.alen (n := Int32.ofNat (hN h a)) X.1 X.2.1 h1 (hA (hN h a) (fun j => va_rf (aR h t a j))) (by rw [vp_cell_q, arrV_size] <;> rfl) rfl rfl hd kk
    · exact W.alen (n := Int32.ofNat (hN h a)) X.1 X.2.1 h1 (hA (hN h a) (fun j => .int (aI h t a j))) (by rw [vp_cell_i, arrV_size] <;> rfl) rfl rfl hd kk
theorem J_new {idx ci N : Nat} {C : String} {T : u_T} {ty : Nat → FieldType} (hd : decode k.2.1 pc = .ok (.new idx, 3)) (hcl : Cond.classLink k.1.cls idx C ∈ om_tb) (hins : Cond.instantiable C N ∈ om_tb) (hini : Cond.initialized C ∈ om_tb) (hc : vwCl[ci]? = some (C, T, N)) (hci : ci < 15) (hin : ∀ w ∈ u_ws C T N, w ∈ om_tb) (hty : ∀ k, k < N → parseFieldDescriptor (T k).2.2.1 = some (ty k)) (hz : ∀ f, f < N → defaultValue (ty f) = if fT ci f = 1 then .long 0 else if fT ci f = 2 then .null else .int 0) (h1 : c + 1 ≤ r.1.cells) (h2 : sl + N ≤ r.1.slots)
    (kk : ∀ a, hK h a = 0 → J x r k (pc + 3) L (.ref a :: st) (nwO h a ci) (c + 1) (sl + N)) : J x r k pc L st h c sl := by
  intro p e s mi args below meth cd H locs ls X hH hS hL
  have hKn := X.2.2.2.2.2.1.1.1 ci _ hc
  have hts := X.2.2.2.2.1
  refine W.newcK X.1 X.2.1 X.2.2.2.1 (hts _ hcl) (hts _ hins) (hts _ hini) rfl hd h1 h2 hKn.2.1 rfl fun H1 kC hkC e1 z1 o1 => ?_
  have h0 := hH.null (Nat.le_refl H.size)
  refine kk H.size h0 p e s mi args below meth cd H1 locs ls X (om_nwO hH h0 hci hc (Nat.le_trans X.2.2.2.2.2.2.2.2.2 hS.1) ((u_born ty hts hin hKn hkC e1 hty).to hz) (fun q _ h => o1 q h)) ⟨Nat.le_trans hS.1 (by omega), fun q h1 h2 => (o1 q (Nat.lt_of_lt_of_le h1 hS.1)).trans (hS.2.1 q h1 h2), hS.2.2⟩ hL
theorem J_newa (t : Nat) {n : Int32} {N : Nat} {atype : ArrayType} (hd : decode k.2.1 pc = .ok (.newarray atype, 2)) (hw : Cond.arrayClass (newarray.typeOf atype) ∈ om_tb) (ht : 16 ≤ t ∧ newarray.typeOf atype = aT (kOf t) ∧ kOf t < 3) (hn : n.toNatClampNeg = N ∧ ¬ n < 0) (hb : N ≤ 1000) (h1 : c + 1 ≤ r.1.cells) (h2 : sl + N ≤ r.1.slots)
    (kk : ∀ a, hK h a = 0 → J x r k (pc + 2) L (.ref a :: st) (nwA h a t N) (c + 1) (sl + N)) : J x r k pc L (.int n :: st) h c sl := by
  intro p e s mi args below meth cd H locs ls X hH hS hL
  refine va_newaK X.1 X.2.1 (X.2.2.2.2.1 _ hw) rfl hd rfl hn.2 hn.1 (by rw [ht.2.1]; have : componentBytes (aT (kOf t)) ≤ 8 := (by unfold aT; rcases (by omega : kOf t = 0 ∨ kOf t = 1 ∨ kOf t = 2) with e | e | e <;> rw [e] <;> decide); exact Nat.le_trans (Nat.mul_le_mul hb this) (by decide)) h1 h2 rfl fun H1 cA e1 z1 o1 hAr hNm => ?_
  have h0 := hH.null (Nat.le_refl H.size)
  have hA := (X.arr (kOf_lt t)).2
  rw [ht.2.1] at e1 hNm
  have hcA : cA = x.2.2.1 (kOf t) := by
    have h3 : s.vm.findClass ("[" ++ (aT (kOf t)).toString) = some (x.2.2.1 (kOf t)) := by
      rcases (by omega : kOf t = 0 ∨ kOf t = 1 ∨ kOf t = 2) with e | e | e <;> rw [e] at hA ⊢ <;> exact hA
    exact Option.some.inj (hNm.symm.trans h3)
  subst hcA
  refine kk H.size h0 p e s mi args below meth cd H1 locs ls X (om_nwA hH h0 ht.1 (Nat.le_trans X.2.2.2.2.2.2.2.2.2 hS.1) ?_ (fun q _ h => o1 q h)) ⟨Nat.le_trans hS.1 (by omega), fun q h1 h2 => (o1 q (Nat.lt_of_lt_of_le h1 hS.1)).trans (hS.2.1 q h1 h2), hS.2.2⟩ hL
  rw [e1]
  rcases (by omega : kOf t = 0 ∨ kOf t = 1 ∨ kOf t = 2) with e | e | e <;> rw [e] <;> rfl
theorem om_ext.ao {U : State} (he : om_ext U) {q : Nat} (h1 : 3 ≤ q) (h2 : q < 8) {C : String} (hC : aT q = .object C) : va_AO C U := by
  rcases (by omega : q = 3 ∨ q = 4 ∨ q = 5 ∨ q = 6 ∨ q = 7) with rfl | rfl | rfl | rfl | rfl <;> cases hC
  · exact he.1.1
  · exact he.1.2.1
  · exact he.1.2.2.1
  · exact he.1.2.2.2.1
  · exact he.1.2.2.2.2
theorem J_anew (t : Nat) {n : Int32} {N idx : Nat} {C : String} (hd : decode k.2.1 pc = .ok (.anewarray idx, 3)) (hcl : Cond.classLink k.1.cls idx C ∈ om_tb) (ht : 16 ≤ t ∧ aT (kOf t) = .object C ∧ 3 ≤ kOf t) (hn : n.toNatClampNeg = N ∧ ¬ n < 0) (hb : N ≤ 1000) (h1 : c + 1 ≤ r.1.cells) (h2 : sl + N ≤ r.1.slots)
    (kk : ∀ a, hK h a = 0 → J x r k (pc + 3) L (.ref a :: st) (nwA h a t N) (c + 1) (sl + N)) : J x r k pc L (.int n :: st) h c sl := by
  intro p e s mi args below meth cd H locs ls X hH hS hL
  obtain ⟨hnN, hn0⟩ := hn
  subst hnN
  refine W.anew X.1 X.2.1 X.2.2.2.1 (X.2.2.2.2.1 _ hcl) (va_AO.use (X.2.2.2.2.2.1.2.ao ht.2.2 (kOf_lt t) ht.2.1)) rfl hd rfl hn0 (by omega) h1 h2 fun cA kA comp f1 f2 f3 f4 => ?_
  generalize hH1 : H.push ({ cls := cA, slots := Array.replicate n.toNatClampNeg .null, vm := .none } : Cell) = H1
  have z1 : H1.size = H.size + 1 := by rw [← hH1, Array.size_push]
  have e1 : H1[H.size]? = some (arrV cA n.toNatClampNeg (fun _ => .null)) := by rw [← hH1, Array.getElem?_push_size, ← arrV_new]
  have o1 : ∀ q : Nat, q < H.size → H1[q]? = H[q]? := fun q hq => by rw [← hH1, Array.getElem?_push, if_neg (Nat.ne_of_lt hq)]
  have h0 := hH.null (Nat.le_refl H.size)
  have hA := (X.arr (kOf_lt t)).2
  rw [ht.2.1] at hA
  obtain ⟨kA2, comp2, k1, k2, k3, k4⟩ := hA
  have hcA : cA = x.2.2.1 (kOf t) := Option.some.inj (f1.symm.trans k4)
  subst hcA
  refine kk H.size h0 p e s mi args below meth cd H1 locs ls X (om_nwA hH h0 ht.1 (Nat.le_trans X.2.2.2.2.2.2.2.2.2 hS.1) ?_ (fun q _ h => o1 q h)) ⟨Nat.le_trans hS.1 (by omega), fun q h1 h2 => (o1 q (Nat.lt_of_lt_of_le h1 hS.1)).trans (hS.2.1 q h1 h2), hS.2.2⟩ hL
  rw [e1, if_neg (by omega), if_pos ht.2.2]
theorem J_mmin {idx : Nat} {a b : Int32} (hd : decode k.2.1 pc = .ok (.invokestatic idx, 3)) (hl : Cond.methodLink k.1.cls idx Lib.Math.min.name ∈ om_tb) (h1 : 1 ≤ r.1.frames) (h2 : (st.map fun v => v.category).sum + 13 ≤ r.1.locals) (hc : c ≤ r.1.cells) (hs : sl ≤ r.1.slots) (kk : J x r k (pc + 3) L (.int (if b < a then b else a) :: st) h c sl) : J x r k pc L (.int b :: .int a :: st) h c sl := by
  intro p e s mi args below meth cd H locs ls X hH hS hL
  have hts := X.2.2.2.2.1
  exact va_mmin X.1 X.2.1 (by rw [X.2.2.1, hL.1]) X.2.2.2.1 (hts _ hl) (hts _ mt_min_s) (hts _ mt_min_i) (hts _ mt_min_c) h1 h2 hc hs hd (kk p e s mi args below meth cd H locs ls X hH hS hL)
theorem J_mmax {idx : Nat} {a b : Int32} (hd : decode k.2.1 pc = .ok (.invokestatic idx, 3)) (hl : Cond.methodLink k.1.cls idx Lib.Math.max.name ∈ om_tb) (h1 : 1 ≤ r.1.frames) (h2 : (st.map fun v => v.category).sum + 13 ≤ r.1.locals) (hc : c ≤ r.1.cells) (hs : sl ≤ r.1.slots) (kk : J x r k (pc + 3) L (.int (if a < b then b else a) :: st) h c sl) : J x r k pc L (.int b :: .int a :: st) h c sl := by
  intro p e s mi args below meth cd H locs ls X hH hS hL
  have hts := X.2.2.2.2.1
  exact va_mmax X.1 X.2.1 (by rw [X.2.2.1, hL.1]) X.2.2.2.1 (hts _ hl) (hts _ mt_max_s) (hts _ mt_max_i) (hts _ mt_max_c) h1 h2 hc hs hd (kk p e s mi args below meth cd H locs ls X hH hS hL)
theorem J_obj {idx a : Nat} (hd : decode k.2.1 pc = .ok (.invokespecial idx, 3)) (hl : Cond.methodLink k.1.cls idx Lib.objectInit ∈ om_tb) (h1 : 1 ≤ r.1.frames) (h2 : (st.map fun v => v.category).sum + 12 ≤ r.1.locals) (kk : J x r k (pc + 3) L st h c sl) : J x r k pc L (.ref a :: st) h c sl := by
  intro p e s mi args below meth cd H locs ls X hH hS hL
  have hts := X.2.2.2.2.1
  exact W.objInit X.1 X.2.1 X.2.2.2.1 (hts _ hl) (hts _ obj_i) (hts _ obj_c) rfl (by rw [X.2.2.1]; exact hL.1) rfl hd h1 (by show 2 * 0 + _ + 12 ≤ _; omega) (kk p e s mi args below meth cd H locs ls X hH hS hL)
end JA
/-! contracts -/
def om_ws (k : om_k) : List Cond := .code k.1 k.2.1 k.2.2.1 k.2.2.2 :: om_tb
def om_rm (d mc ms : Nat) : Room := { frames := d, cells := mc, slots := ms, locals := 40 * d }
def om_Pc (x : om_x) (as : List Value) (h : Hp) : Array Value → State → Prop := fun v U => v = as.toArray ∧ om_H x h U.heap ∧ om_W x U ∧ x.2.2.2 ≤ U.heap.size
def om_Qc (x : om_x) (Q : Option Value → Hp → Prop) : Array Value → State → Outcome → State → Prop := fun _ st o t => (∃ v h', o = .returned v ∧ Q v h' ∧ om_H x h' t.heap) ∧ va_F (om_A x) st t
/-- method k, at the depth d at most, makes mc cells of ms slots at most: from the heap h, with the arguments as, it returns, and Q holds of what it answers and the heap then -/
def Mt (x : om_x) (d : Nat) (k : om_k) (mc ms : Nat) (as : List Value) (h : Hp) (Q : Option Value → Hp → Prop) : Prop := Met x.1 k.1 (om_ws k) (om_rm d mc ms) (om_Pc x as h) (om_Qc x Q) mc ms (om_A x)
def om_Z (x : om_x) (Q : Option Value → Hp → Prop) (mc ms : Nat) : Array Value → State → List Frame → State → Prop := fun args s below => MQ below (om_Qc x Q) args s mc ms (om_A x)
abbrev om_m (x : om_x) (d mc ms : Nat) (Q : Option Value → Hp → Prop) : om_r := (om_rm d mc ms, om_Z x Q mc ms)
section JC
variable {x : om_x} {r : om_r} {k : om_k} {pc : Nat} {L : List (Nat × Value)} {st : List Value} {h : Hp} {c sl : Nat}
theorem om_Pc.blind {as : List Value} : FrameBlind (om_Pc x as h) := fun a U g mk q => ⟨q.1, q.2.1, om_W.same rfl q.2.2.1, q.2.2.2⟩
theorem om_good (k : om_k) (hk : Cond.code k.1 k.2.1 k.2.2.1 k.2.2.2 ∈ om_tb) : GoodIn om_tb (om_ws k) := by
  intro w hw
  have hm : w ∈ om_tb := by
    rcases List.mem_cons.mp hw with e | e
    · rw [e]; exact hk
    · exact e
  exact ⟨hm, good_of_word (om_tb_good w hm)⟩
theorem Mt.ofJ {d mc ms n : Nat} {as : List Value} {Q : Option Value → Hp → Prop} (hB : om_B k n) (hl : (lg_sl as).length ≤ k.2.2.1) (kk : J x (om_m x d mc ms Q) k 0 (lv_args 0 as) [] h 0 0) : Mt x d k mc ms as h Q := by
  refine Met.ofW (cc := k.2.1) (maxL := k.2.2.1) (ret := k.2.2.2) hB.2.2.2.2.2 rfl ?_
  intro p e s m args below meth cd s₁ B hml hv
  obtain ⟨rfl, hH, hW, hbase⟩ := hv
  have hts0 := atoms_spec (ws := om_ws k) B.pre
  have hts : ∀ w ∈ om_tb, w.before as.toArray s = true := fun w hw => hts0 w (List.mem_cons_of_mem _ hw)
  have X : om_X x k p s m as.toArray meth cd := ⟨B.exec, B.bytes, hml, findClass_of_methodNamed B.named, hts, hW, B.returns, B.notSynchronized, (name_of_methodNamed B.named B.method).1, hbase⟩
  have hl2 := lv_entry as hl
  rw [lg_entry_eq]
  exact kk p e s m as.toArray below meth cd s.heap [] _ X hH va_S.rf hl2
theorem Mt.weak {d mc ms : Nat} {as : List Value} {Q Q' : Option Value → Hp → Prop} (hQ : ∀ v h', Q v h' → Q' v h') (hm : Mt x d k mc ms as h Q) : Mt x d k mc ms as h Q' := by
  intro p e ha hc hk s m args below hf happ hP hT
  obtain ⟨n, o, h1, h2, h3, h4, h5⟩ := hm p e ha hc hk s m args below hf happ hP hT
  refine ⟨n, o, h1, h2, h3, ?_, h5⟩
  obtain ⟨⟨v, h', q1, q2, q3⟩, q4⟩ := h4
  exact ⟨⟨v, h', q1, hQ v h' q2, q3⟩, q4⟩
theorem om_join {R : Room} {Z : State → Prop} {p : Program} {e : Env} {s : State} {mi : MethodId} {args a : Array Value} {below : List Frame} {meth : Method} {cd : Code} {H : Heap} {locs : List Loc} {mc ms : Nat} {ls : Array Slot} {rest st0 : List Value} {Q : Option Value → Hp → Prop}
    (hr : va_Run p x.1 e R s mi args below meth cd H locs c sl mc ms (F0 mi pc ls st0) rest (om_Qc x Q a) (om_A x)) (hS : va_S (om_A x) s.heap H locs)
    (kk : ∀ v h' H1 locs1, Q v h' → om_H x h' H1 → va_S (om_A x) s.heap H1 locs1 → W p x.1 e R s mi args below meth cd H1 locs1 (c + mc) (sl + ms) Z (F0 mi (pc + 3) ls (v.toList ++ rest))) : W p x.1 e R s mi args below meth cd H locs c sl Z (F0 mi pc ls st0) := by
  intro T hT X
  obtain ⟨v, st₀, t, T', L, h0, X', hL, e1, e2, ⟨⟨v', h', hv, hq, hH1⟩, hz, hkk⟩, st⟩ := hr T hT X
  cases hv
  rw [h0] at hz hkk
  obtain ⟨t2, a1, b1⟩ := kk v h' T'.heap (locs ++ L) hq (by rw [e1]; exact hH1)
    ⟨Nat.le_trans hS.1 (by rw [e1]; exact hz), fun q h1 h2 => by rw [e1, hkk q (Nat.lt_of_lt_of_le h1 hS.1) h2]; exact hS.2.1 q h1 h2, fun q hq => by
      rcases List.mem_append.mp hq with h | h
      · exact hS.2.2 q h
      · exact hL q h⟩ T' rfl X'
  exact ⟨t2, st t2 a1, b1⟩
theorem J_callV {k' : om_k} {idx n d mc ms b ci : Nat} {As rest : List Value} {Q : Option Value → Hp → Prop} (hm : Mt x d k' mc ms (.ref b :: As) h Q) (hd : decode k.2.1 pc = .ok (.invokevirtual idx, 3)) (hl : Cond.methodLink k.1.cls idx k'.1 ∈ om_tb) (hv : om_V k' n) (hn : As.length = n) (hk : hK h b = ci + 1) (hci : ci < 15) (hcl : (vwCl[ci]?).map (fun q => q.1) = some k'.1.cls) (hst : st = As.reverse ++ .ref b :: rest) (hw : (rest.map fun v => v.category).sum ≤ 8)
    (hR : d + 1 ≤ r.1.frames ∧ 8 + (k'.2.2.1 + 11) + 40 * d ≤ r.1.locals) (hf : c + mc ≤ r.1.cells ∧ sl + ms ≤ r.1.slots) (kk : ∀ v h', Q v h' → J x r k (pc + 3) L (v.toList ++ rest) h' (c + mc) (sl + ms)) : J x r k pc L st h c sl := by
  intro p e s mi args below meth cd H locs ls X hH hS hL
  subst hst
  have hts := X.2.2.2.2.1
  obtain ⟨hB, hi, hs⟩ := hv
  have hG := om_good k' hB.1
  obtain ⟨rr, hr1, cell, g1, g2, g3, -⟩ := hH.obj hk hci
  rw [hr1] at hcl
  refine om_join (va_runV (As := As) (rest := rest) (g := F0 mi pc ls (As.reverse ++ .ref b :: rest)) ⟨X.1, X.2.1, X.2.2.1, X.2.2.2.1, hts⟩ hm ⟨callB_of n hts hG rfl rfl rfl (hts _ hB.2.1) (hts _ hl) ⟨hB.2.2.1, hB.2.2.2.1, hB.2.2.2.2.1⟩ hR, hts _ hi, hts _ hs⟩ ⟨om_Pc.blind, ⟨cell, g1, by rw [g3]; rfl, by rw [g2, ← Option.some.inj hcl]; exact (X.2.2.2.2.2.1.1.1 ci rr hr1).2.1⟩, fun U hU hW => ⟨rfl, by rw [hU]; exact hH, om_W.moved hW X.2.2.2.2.2.1, by rw [hU]; exact Nat.le_trans X.2.2.2.2.2.2.2.2.2 hS.1⟩⟩ rfl hn hL.1 rfl (lv_room hw) hd hf) hS fun v h' H1 locs1 hq hH1 hS1 => ?_
  exact kk v h' hq p e s mi args below meth cd H1 locs1 ls X hH1 hS1 hL
theorem J_callS {k' : om_k} {idx n d mc ms : Nat} {As rest : List Value} {Q : Option Value → Hp → Prop} (hm : Mt x d k' mc ms As h Q) (hd : decode k.2.1 pc = .ok (.invokestatic idx, 3)) (hl : Cond.methodLink k.1.cls idx k'.1 ∈ om_tb) (hv : om_Sx k' n) (hn : As.length = n) (hst : st = As.reverse ++ rest) (hw : (rest.map fun v => v.category).sum ≤ 8)
    (hR : d + 1 ≤ r.1.frames ∧ 8 + (k'.2.2.1 + 11) + 40 * d ≤ r.1.locals) (hf : c + mc ≤ r.1.cells ∧ sl + ms ≤ r.1.slots) (kk : ∀ v h', Q v h' → J x r k (pc + 3) L (v.toList ++ rest) h' (c + mc) (sl + ms)) : J x r k pc L st h c sl := by
  intro p e s mi args below meth cd H locs ls X hH hS hL
  subst hst
  have hts := X.2.2.2.2.1
  obtain ⟨hB, hs⟩ := hv
  have hG := om_good k' hB.1
  refine om_join (va_runS (As := As) (rest := rest) (g := F0 mi pc ls (As.reverse ++ rest)) ⟨X.1, X.2.1, X.2.2.1, X.2.2.2.1, hts⟩ hm ⟨callB_of n hts hG rfl rfl rfl (hts _ hB.2.1) (hts _ hl) ⟨hB.2.2.1, hB.2.2.2.1, hB.2.2.2.2.1⟩ hR, hts _ hs⟩ ⟨om_Pc.blind, fun U hU hW => ⟨rfl, by rw [hU]; exact hH, om_W.moved hW X.2.2.2.2.2.1, by rw [hU]; exact Nat.le_trans X.2.2.2.2.2.2.2.2.2 hS.1⟩⟩ rfl hn hL.1 rfl (lv_room hw) hd hf) hS fun v h' H1 locs1 hq hH1 hS1 => ?_
  exact kk v h' hq p e s mi args below meth cd H1 locs1 ls X hH1 hS1 hL
theorem J_callI {k' : om_k} {idx n d mc ms b : Nat} {As rest : List Value} {Q : Option Value → Hp → Prop} (hm : Mt x d k' mc ms (.ref b :: As) h Q) (hd : decode k.2.1 pc = .ok (.invokespecial idx, 3)) (hl : Cond.methodLink k.1.cls idx k'.1 ∈ om_tb) (hv : om_Ix k' n) (hn : As.length = n) (hst : st = As.reverse ++ .ref b :: rest) (hw : (rest.map fun v => v.category).sum ≤ 8)
    (hR : d + 1 ≤ r.1.frames ∧ 8 + (k'.2.2.1 + 11) + 40 * d ≤ r.1.locals) (hf : c + mc ≤ r.1.cells ∧ sl + ms ≤ r.1.slots) (kk : ∀ v h', Q v h' → J x r k (pc + 3) L (v.toList ++ rest) h' (c + mc) (sl + ms)) : J x r k pc L st h c sl := by
  intro p e s mi args below meth cd H locs ls X hH hS hL
  subst hst
  have hts := X.2.2.2.2.1
  obtain ⟨hB, hi, hy, hret⟩ := hv
  have hG := om_good k' hB.1
  refine om_join (va_runI (As := As) (rest := rest) (g := F0 mi pc ls (As.reverse ++ .ref b :: rest)) ⟨X.1, X.2.1, X.2.2.1, X.2.2.2.1, hts⟩ hm ⟨callB_of n hts hG (ws' := om_tb) (by rw [← hret]; rfl) rfl rfl (hts _ hB.2.1) (hts _ hl) ⟨hB.2.2.1, hB.2.2.2.1, hB.2.2.2.2.1⟩ hR, hy, hts _ hi⟩ ⟨om_Pc.blind, fun U hU hW => ⟨rfl, by rw [hU]; exact hH, om_W.moved hW X.2.2.2.2.2.1, by rw [hU]; exact Nat.le_trans X.2.2.2.2.2.2.2.2.2 hS.1⟩⟩ rfl hn hL.1 rfl (lv_room hw) hd hf) hS fun v h' H1 locs1 hq hH1 hS1 => ?_
  exact kk v h' hq p e s mi args below meth cd H1 locs1 ls X hH1 hS1 hL
theorem J_callIN {d mc ms b : Nat} {rest : List Value} {Q : Option Value → Hp → Prop} (hm : Mt x d kX2_init mc ms [.ref b] h Q) (hd : decode k.2.1 pc = .ok (.invokespecial 17, 3)) (hk : k.1.cls = RX4) (hst : st = .ref b :: rest) (hw : (rest.map fun v => v.category).sum ≤ 8)
    (hR : d + 1 ≤ r.1.frames ∧ 8 + (kX2_init.2.2.1 + 11) + 40 * d ≤ r.1.locals) (hf : c + mc ≤ r.1.cells ∧ sl + ms ≤ r.1.slots) (kk : ∀ v h', Q v h' → J x r k (pc + 3) L (v.toList ++ rest) h' (c + mc) (sl + ms)) : J x r k pc L st h c sl := by
  intro p e s mi args below meth cd H locs ls X hH hS hL
  subst hst
  have hts := X.2.2.2.2.1
  obtain ⟨hB, hi, hy, hret⟩ := mkX2_init
  have hG := om_good kX2_init hB.1
  refine om_join (va_runIN (As := []) (rest := rest) (g := F0 mi pc ls (.ref b :: rest)) (own := RX4) ⟨X.1, X.2.1, X.2.2.1, hk ▸ X.2.2.2.1, hts⟩ hm ⟨va_cnB 0 hts hG rfl rfl rfl X.2.2.2.2.2.1.2.2 (hts _ hB.2.1) ⟨hB.2.2.1, hB.2.2.2.1, hB.2.2.2.2.1⟩ hR, hy, hts _ hi⟩ ⟨om_Pc.blind, fun U hU hW => ⟨rfl, by rw [hU]; exact hH, om_W.moved hW X.2.2.2.2.2.1, by rw [hU]; exact Nat.le_trans X.2.2.2.2.2.2.2.2.2 hS.1⟩⟩ rfl rfl hL.1 rfl (lv_room hw) hd hf) hS fun v h' H1 locs1 hq hH1 hS1 => ?_
  exact kk v h' hq p e s mi args below meth cd H1 locs1 ls X hH1 hS1 hL
variable {d mc ms : Nat} {Q : Option Value → Hp → Prop}
theorem om_ret {s t : State} {H : Heap} {locs : List Loc} {v : Option Value} {args : Array Value} (hH : om_H x h H) (hS : va_S (om_A x) s.heap H locs) (hq : Q v h) (ht : t.heap = H) : om_Qc x Q args s (.returned v) t := ⟨⟨v, h, rfl, hq, by rw [ht]; exact hH⟩, hS.F ht⟩
theorem J_ireturn {v : Int32} (hd : decode k.2.1 pc = .ok (.ireturn, 1)) (hr : k.2.2.2 = some .int) (hq : Q (some (.int v)) h) (hc : c ≤ mc) (hs : sl ≤ ms) : J x (om_m x d mc ms Q) k pc L [.int v] h c sl := by
  intro p e s mi args below meth cd H locs ls X hH hS hL
  have hlocks := X.2.2.2.2.2.2.2.1
  exact W.widen hc hs (W.iret X.1 X.2.1 (X.2.2.2.2.2.2.1.trans hr) (fun t ht _ => om_ret hH hS hq ht) hS.2.2 hd hlocks)
theorem J_zreturn {v : Int32} (hd : decode k.2.1 pc = .ok (.ireturn, 1)) (hr : k.2.2.2 = some .boolean) (hv : v = 0 ∨ v = 1) (hq : Q (some (.int v)) h) (hc : c ≤ mc) (hs : sl ≤ ms) : J x (om_m x d mc ms Q) k pc L [.int v] h c sl := by
  intro p e s mi args below meth cd H locs ls X hH hS hL
  have hlocks := X.2.2.2.2.2.2.2.1
  exact W.widen hc hs (W.zret X.1 X.2.1 (X.2.2.2.2.2.2.1.trans hr) (by rcases hv with rfl | rfl <;> rfl) (fun t ht _ => om_ret hH hS hq ht) hS.2.2 hd hlocks)
theorem J_lreturn {v : Int64} (hd : decode k.2.1 pc = .ok (.lreturn, 1)) (hr : k.2.2.2 = some .long) (hq : Q (some (.long v)) h) (hc : c ≤ mc) (hs : sl ≤ ms) : J x (om_m x d mc ms Q) k pc L [.long v] h c sl := by
  intro p e s mi args below meth cd H locs ls X hH hS hL
  have hlocks := X.2.2.2.2.2.2.2.1
  exact W.widen hc hs (W.lret X.1 X.2.1 (X.2.2.2.2.2.2.1.trans hr) (fun t ht _ => om_ret hH hS hq ht) hS.2.2 hd hlocks)
theorem J_areturn {v : Value} {rt : FieldType} (hd : decode k.2.1 pc = .ok (.areturn, 1)) (hr : k.2.2.2 = some rt) (hrt : (∃ n, rt = .object n) ∨ ∃ t, rt = .array t) (hv : isR v) (hq : Q (some v) h) (hc : c ≤ mc) (hs : sl ≤ ms) : J x (om_m x d mc ms Q) k pc L [v] h c sl := by
  intro p e s mi args below meth cd H locs ls X hH hS hL
  have hlocks := X.2.2.2.2.2.2.2.1
  exact W.widen hc hs (W.aret X.1 X.2.1 (X.2.2.2.2.2.2.1.trans hr) hrt hv (fun t ht _ => om_ret hH hS hq ht) hS.2.2 hd hlocks)
theorem J_return (hd : decode k.2.1 pc = .ok (.return_, 1)) (hr : k.2.2.2 = none) (hq : Q none h) (hc : c ≤ mc) (hs : sl ≤ ms) : J x (om_m x d mc ms Q) k pc L [] h c sl := by
  intro p e s mi args below meth cd H locs ls X hH hS hL
  have hlocks := X.2.2.2.2.2.2.2.1
  exact W.widen hc hs (W.vret X.1 X.2.1 (X.2.2.2.2.2.2.1.trans hr) (fun t ht _ => om_ret hH hS hq ht) hS.2.2 hd hlocks)
end JC
end
section
/-! the reference's state: its numbers by field, its arrays by field and index -/
abbrev Ms : Type := (Nat → Int32) × (Nat → Nat → Int32) × (Nat → Nat → Int64)
def mI (S : Ms) : Nat → Int32 := S.1
def mT (S : Ms) : Nat → Nat → Int32 := S.2.1
def mJ (S : Ms) : Nat → Nat → Int64 := S.2.2
def pI (S : Ms) (f : Nat) (v : Int32) : Ms := (up1 S.1 f v, S.2.1, S.2.2)
def pT (S : Ms) (f j : Nat) (v : Int32) : Ms := (S.1, up2 S.2.1 f j v, S.2.2)
def pJ (S : Ms) (f j : Nat) (v : Int64) : Ms := (S.1, S.2.1, up2 S.2.2 f j v)
def mAs : List Nat := [449, 450, 451, 452, 454, 455, 456, 457, 458, 459, 460, 461, 462, 463, 464, 465, 466, 467, 469, 470, 471, 472, 473, 474, 475, 477, 478, 479, 480, 481]
def mq (f : Nat) : Nat := if f ∈ ([449, 467, 470, 473] : List Nat) then 2 else if f ∈ ([452, 464, 472, 480] : List Nat) then 1 else 0
def mr (f : Nat) : Nat := 16 + 8 * f + mq f
def ml (f : Nat) : Nat := if f < 452 then 10 else if f = 452 then 24 else if f < 468 then 300 else if f < 474 then 121 else if f < 476 then 40 else 700
theorem mq_lt (f : Nat) : mq f < 8 := by unfold mq; split; decide; split <;> decide
theorem mr_inj {f g : Nat} (h : mr f = mr g) : f = g := by
  have h1 := mq_lt f
  have h2 := mq_lt g
  unfold mr at h
  omega
theorem mr_ge {f : Nat} (h : 400 ≤ f) : 3000 ≤ mr f := by unfold mr; omega
/-- y: the object's address, its arrays' addresses by field -/
abbrev om_y : Type := Nat × (Nat → Nat)
def MI (y : om_y) (h : Hp) : Prop := hK h y.1 = 8 ∧ ∀ f ∈ mAs, hR h f y.1 = some (y.2 f) ∧ hK h (y.2 f) = mr f ∧ hN h (y.2 f) = ml f
def RepM (y : om_y) (S : Ms) (h : Hp) : Prop := MI y h ∧ (∀ f, hI h f y.1 = mI S f) ∧ (∀ f j, 400 ≤ f → aI h (mr f) (y.2 f) j = mT S f j) ∧ (∀ f j, 400 ≤ f → aJ h (mr f) (y.2 f) j = mJ S f j)
/-- what the reference leaves as it is -/
def FM (y : om_y) (h0 h : Hp) : Prop := hK h = hK h0 ∧ hN h = hN h0 ∧ hJ h = hJ h0 ∧ hR h = hR h0 ∧ aR h = aR h0 ∧ (∀ g b, b ≠ y.1 → hI h g b = hI h0 g b) ∧ (∀ t a, t < 3000 → aI h t a = aI h0 t a) ∧ (∀ t a, t < 3000 → aJ h t a = aJ h0 t a)
theorem FM.rf {y : om_y} {h : Hp} : FM y h h := ⟨rfl, rfl, rfl, rfl, rfl, fun _ _ _ => rfl, fun _ _ _ => rfl, fun _ _ _ => rfl⟩
def Mq (y : om_y) (h0 : Hp) (Q : Option Value → Ms → Prop) : Option Value → Hp → Prop := fun v h' => ∃ S', RepM y S' h' ∧ FM y h0 h' ∧ Q v S'
def MJ (x : om_x) (y : om_y) (h0 : Hp) (d : Nat) (Q : Option Value → Ms → Prop) (k : om_k) (pc : Nat) (L : List (Nat × Value)) (st : List Value) (S : Ms) : Prop :=
  ∀ h, RepM y S h → FM y h0 h → J x (om_m x d 0 0 (Mq y h0 Q)) k pc L st h 0 0
def MM (x : om_x) (y : om_y) (d : Nat) (k : om_k) (as : List Value) (S : Ms) (Q : Option Value → Ms → Prop) : Prop := ∀ h0 h, RepM y S h → FM y h0 h → Mt x d k 0 0 as h (Mq y h0 Q)
theorem RepM_sI {y : om_y} {S : Ms} {h : Hp} {f : Nat} {v : Int32} (hr : RepM y S h) : RepM y (pI S f v) (sI h f y.1 v) := by
  refine ⟨hr.1, fun g => ?_, hr.2.2.1, hr.2.2.2⟩
  have := hr.2.1 g
  simp only [hI, mI, pI, sI, up2, up1] at this ⊢
  by_cases e : g = f <;> simp [e, this]
theorem RepM_tI {y : om_y} {S : Ms} {h : Hp} {f j : Nat} {v : Int32} (hf : 400 ≤ f) (hr : RepM y S h) : RepM y (pT S f j v) (tI h (mr f) (y.2 f) j v) := by
  refine ⟨hr.1, hr.2.1, fun g i hg => ?_, hr.2.2.2⟩
  have := hr.2.2.1 g i hg
  simp only [aI, mT, pT, tI, up2, up3] at this ⊢
  by_cases e : g = f
  · subst e; simp [this]
  · have e2 : ¬ mr g = mr f := fun z => e (mr_inj z)
    simp [e, e2, this]
theorem RepM_tJ {y : om_y} {S : Ms} {h : Hp} {f j : Nat} {v : Int64} (hf : 400 ≤ f) (hr : RepM y S h) : RepM y (pJ S f j v) (tJ h (mr f) (y.2 f) j v) := by
  refine ⟨hr.1, hr.2.1, hr.2.2.1, fun g i hg => ?_⟩
  have := hr.2.2.2 g i hg
  simp only [aJ, mJ, pJ, tJ, up2, up3] at this ⊢
  by_cases e : g = f
  · subst e; simp [this]
  · have e2 : ¬ mr g = mr f := fun z => e (mr_inj z)
    simp [e, e2, this]
theorem FM_sI {y : om_y} {h0 h : Hp} {f : Nat} {v : Int32} (hr : FM y h0 h) : FM y h0 (sI h f y.1 v) := by
  refine ⟨hr.1, hr.2.1, hr.2.2.1, hr.2.2.2.1, hr.2.2.2.2.1, fun g b hb => ?_, hr.2.2.2.2.2.2⟩
  have := hr.2.2.2.2.2.1 g b hb
  rw [← this]
  simp [hI, sI, up2, hb]
theorem FM_tI {y : om_y} {h0 h : Hp} {f a j : Nat} {v : Int32} (hf : 400 ≤ f) (hr : FM y h0 h) : FM y h0 (tI h (mr f) a j v) := by
  refine ⟨hr.1, hr.2.1, hr.2.2.1, hr.2.2.2.1, hr.2.2.2.2.1, hr.2.2.2.2.2.1, fun t b ht => ?_, hr.2.2.2.2.2.2.2⟩
  have := hr.2.2.2.2.2.2.1 t b ht
  rw [← this]
  have e : ¬ t = mr f := by have := mr_ge hf; omega
  funext i
  simp [aI, tI, up3, e]
theorem FM_tJ {y : om_y} {h0 h : Hp} {f a j : Nat} {v : Int64} (hf : 400 ≤ f) (hr : FM y h0 h) : FM y h0 (tJ h (mr f) a j v) := by
  refine ⟨hr.1, hr.2.1, hr.2.2.1, hr.2.2.2.1, hr.2.2.2.2.1, hr.2.2.2.2.2.1, hr.2.2.2.2.2.2.1, fun t b ht => ?_⟩
  have := hr.2.2.2.2.2.2.2 t b ht
  rw [← this]
  have e : ¬ t = mr f := by have := mr_ge hf; omega
  funext i
  simp [aJ, tJ, up3, e]
section MJR
variable {x : om_x} {y : om_y} {h0 : Hp} {d : Nat} {Q : Option Value → Ms → Prop} {k : om_k} {pc : Nat} {L : List (Nat × Value)} {st : List Value} {S : Ms}
theorem MJ_loc (L' : List (Nat × Value)) (hl : L'.map (fun q => lk L q.1) = L'.map (fun q => some q.2)) (kk : MJ x y h0 d Q k pc L' st S) : MJ x y h0 d Q k pc L st S := fun h hr hF => J_loc L' hl (kk h hr hF)
theorem MJ_S {S' : Ms} (e : S = S') (kk : MJ x y h0 d Q k pc L st S') : MJ x y h0 d Q k pc L st S := by rw [e]; exact kk
theorem MJ_pc {pc' : Nat} (e : pc = pc') (kk : MJ x y h0 d Q k pc' L st S) : MJ x y h0 d Q k pc L st S := by rw [e]; exact kk
theorem MJ_st {st' : List Value} (e : st = st') (kk : MJ x y h0 d Q k pc L st' S) : MJ x y h0 d Q k pc L st S := by rw [e]; exact kk
theorem MJ_iconst {n : Int} {v : Int32} (hd : decode k.2.1 pc = .ok (.iconst n, 1)) (hv : Int32.ofInt n = v) (kk : MJ x y h0 d Q k (pc + 1) L (.int v :: st) S) : MJ x y h0 d Q k pc L (st) S := fun h hr hF => J_iconst hd hv (kk h hr hF)
theorem MJ_bipush {n : Int} {v : Int32} (hd : decode k.2.1 pc = .ok (.bipush n, 2)) (hv : (Int8.ofInt n).toInt32 = v) (kk : MJ x y h0 d Q k (pc + 2) L (.int v :: st) S) : MJ x y h0 d Q k pc L (st) S := fun h hr hF => J_bipush hd hv (kk h hr hF)
theorem MJ_sipush {n : Int} {v : Int32} (hd : decode k.2.1 pc = .ok (.sipush n, 3)) (hv : (Int16.ofInt n).toInt32 = v) (kk : MJ x y h0 d Q k (pc + 3) L (.int v :: st) S) : MJ x y h0 d Q k pc L (st) S := fun h hr hF => J_sipush hd hv (kk h hr hF)
theorem MJ_lconst {n : Fin 2} {v : Int64} (hd : decode k.2.1 pc = .ok (.lconst n, 1)) (hv : Int64.ofNat (n : Nat) = v) (kk : MJ x y h0 d Q k (pc + 1) L (.long v :: st) S) : MJ x y h0 d Q k pc L (st) S := fun h hr hF => J_lconst hd hv (kk h hr hF)
theorem MJ_ldc {i : Nat} {v : Int32} (hd : decode k.2.1 pc = .ok (.ldc i, 2)) (hc : Cond.constant k.1.cls i v ∈ om_tb) (kk : MJ x y h0 d Q k (pc + 2) L (.int v :: st) S) : MJ x y h0 d Q k pc L st S := fun h hr hF => J_ldc hd hc (kk h hr hF)
theorem MJ_ldc2 {i : Nat} {v : Int64} (hd : decode k.2.1 pc = .ok (.ldc2_w i, 3)) (hc : Cond.constantLong k.1.cls i v ∈ om_tb) (kk : MJ x y h0 d Q k (pc + 3) L (.long v :: st) S) : MJ x y h0 d Q k pc L st S := fun h hr hF => J_ldc2 hd hc (kk h hr hF)
theorem MJ_iload_n {n : Fin 4} {i : Nat} {v : Int32} (hd : decode k.2.1 pc = .ok (.iload_n n, 1)) (hi : (n : Nat) = i) (hl : lk L i = some (.int v)) (kk : MJ x y h0 d Q k (pc + 1) L (.int v :: st) S) : MJ x y h0 d Q k pc L (st) S := fun h hr hF => J_iload_n hd hi hl (kk h hr hF)
theorem MJ_iload {i : Nat} {v : Int32} (hd : decode k.2.1 pc = .ok (.iload i, 2)) (hl : lk L i = some (.int v)) (kk : MJ x y h0 d Q k (pc + 2) L (.int v :: st) S) : MJ x y h0 d Q k pc L (st) S := fun h hr hF => J_iload hd hl (kk h hr hF)
theorem MJ_lload_n {n : Fin 4} {i : Nat} {v : Int64} (hd : decode k.2.1 pc = .ok (.lload_n n, 1)) (hi : (n : Nat) = i) (hl : lk L i = some (.long v)) (kk : MJ x y h0 d Q k (pc + 1) L (.long v :: st) S) : MJ x y h0 d Q k pc L (st) S := fun h hr hF => J_lload_n hd hi hl (kk h hr hF)
theorem MJ_lload {i : Nat} {v : Int64} (hd : decode k.2.1 pc = .ok (.lload i, 2)) (hl : lk L i = some (.long v)) (kk : MJ x y h0 d Q k (pc + 2) L (.long v :: st) S) : MJ x y h0 d Q k pc L (st) S := fun h hr hF => J_lload hd hl (kk h hr hF)
theorem MJ_aload_n {n : Fin 4} {i : Nat} {v : Value} (hd : decode k.2.1 pc = .ok (.aload_n n, 1)) (hi : (n : Nat) = i) (hl : lk L i = some v) (hv : isR v) (kk : MJ x y h0 d Q k (pc + 1) L (v :: st) S) : MJ x y h0 d Q k pc L st S := fun h hr hF => J_aload_n hd hi hl hv (kk h hr hF)
theorem MJ_aload {i : Nat} {v : Value} (hd : decode k.2.1 pc = .ok (.aload i, 2)) (hl : lk L i = some v) (hv : isR v) (kk : MJ x y h0 d Q k (pc + 2) L (v :: st) S) : MJ x y h0 d Q k pc L st S := fun h hr hF => J_aload hd hl hv (kk h hr hF)
theorem MJ_istore_n {n : Fin 4} {i : Nat} {v : Int32} (hd : decode k.2.1 pc = .ok (.istore_n n, 1)) (hi : (n : Nat) = i) (hn : i < k.2.2.1) (kk : MJ x y h0 d Q k (pc + 1) (st1 i (.int v) L) st S) : MJ x y h0 d Q k pc L (.int v :: st) S := fun h hr hF => J_istore_n hd hi hn (kk h hr hF)
theorem MJ_istore {i : Nat} {v : Int32} (hd : decode k.2.1 pc = .ok (.istore i, 2)) (hn : i < k.2.2.1) (kk : MJ x y h0 d Q k (pc + 2) (st1 i (.int v) L) st S) : MJ x y h0 d Q k pc L (.int v :: st) S := fun h hr hF => J_istore hd hn (kk h hr hF)
theorem MJ_lstore_n {n : Fin 4} {i : Nat} {v : Int64} (hd : decode k.2.1 pc = .ok (.lstore_n n, 1)) (hi : (n : Nat) = i) (hn : i + 1 < k.2.2.1) (kk : MJ x y h0 d Q k (pc + 1) (st2 i (.long v) L) st S) : MJ x y h0 d Q k pc L (.long v :: st) S := fun h hr hF => J_lstore_n hd hi hn (kk h hr hF)
theorem MJ_lstore {i : Nat} {v : Int64} (hd : decode k.2.1 pc = .ok (.lstore i, 2)) (hn : i + 1 < k.2.2.1) (kk : MJ x y h0 d Q k (pc + 2) (st2 i (.long v) L) st S) : MJ x y h0 d Q k pc L (.long v :: st) S := fun h hr hF => J_lstore hd hn (kk h hr hF)
theorem MJ_astore_n {n : Fin 4} {i : Nat} {v : Value} (hd : decode k.2.1 pc = .ok (.astore_n n, 1)) (hi : (n : Nat) = i) (hv : isR v) (hn : i < k.2.2.1) (kk : MJ x y h0 d Q k (pc + 1) (st1 i v L) st S) : MJ x y h0 d Q k pc L (v :: st) S := fun h hr hF => J_astore_n hd hi hv hn (kk h hr hF)
theorem MJ_astore {i : Nat} {v : Value} (hd : decode k.2.1 pc = .ok (.astore i, 2)) (hv : isR v) (hn : i < k.2.2.1) (kk : MJ x y h0 d Q k (pc + 2) (st1 i v L) st S) : MJ x y h0 d Q k pc L (v :: st) S := fun h hr hF => J_astore hd hv hn (kk h hr hF)
theorem MJ_iinc {i : Nat} {n : Int} {a v : Int32} (hd : decode k.2.1 pc = .ok (.iinc i n, 3)) (hl : lk L i = some (.int a)) (hv : a + Int32.ofInt n = v) (hn : i < k.2.2.1) (kk : MJ x y h0 d Q k (pc + 3) (st1 i (.int v) L) st S) : MJ x y h0 d Q k pc L st S := fun h hr hF => J_iinc hd hl hv hn (kk h hr hF)
theorem MJ_iadd {a b : Int32} (hd : decode k.2.1 pc = .ok (.iadd, 1)) (kk : MJ x y h0 d Q k (pc + 1) L (.int (a + b) :: st) S) : MJ x y h0 d Q k pc L (.int b :: .int a :: st) S := fun h hr hF => J_iadd hd (kk h hr hF)
theorem MJ_isub {a b : Int32} (hd : decode k.2.1 pc = .ok (.isub, 1)) (kk : MJ x y h0 d Q k (pc + 1) L (.int (a - b) :: st) S) : MJ x y h0 d Q k pc L (.int b :: .int a :: st) S := fun h hr hF => J_isub hd (kk h hr hF)
theorem MJ_imul {a b : Int32} (hd : decode k.2.1 pc = .ok (.imul, 1)) (kk : MJ x y h0 d Q k (pc + 1) L (.int (a * b) :: st) S) : MJ x y h0 d Q k pc L (.int b :: .int a :: st) S := fun h hr hF => J_imul hd (kk h hr hF)
theorem MJ_iand {a b : Int32} (hd : decode k.2.1 pc = .ok (.iand, 1)) (kk : MJ x y h0 d Q k (pc + 1) L (.int (a &&& b) :: st) S) : MJ x y h0 d Q k pc L (.int b :: .int a :: st) S := fun h hr hF => J_iand hd (kk h hr hF)
theorem MJ_ladd {a b : Int64} (hd : decode k.2.1 pc = .ok (.ladd, 1)) (kk : MJ x y h0 d Q k (pc + 1) L (.long (a + b) :: st) S) : MJ x y h0 d Q k pc L (.long b :: .long a :: st) S := fun h hr hF => J_ladd hd (kk h hr hF)
theorem MJ_lsub {a b : Int64} (hd : decode k.2.1 pc = .ok (.lsub, 1)) (kk : MJ x y h0 d Q k (pc + 1) L (.long (a - b) :: st) S) : MJ x y h0 d Q k pc L (.long b :: .long a :: st) S := fun h hr hF => J_lsub hd (kk h hr hF)
theorem MJ_lmul {a b : Int64} (hd : decode k.2.1 pc = .ok (.lmul, 1)) (kk : MJ x y h0 d Q k (pc + 1) L (.long (a * b) :: st) S) : MJ x y h0 d Q k pc L (.long b :: .long a :: st) S := fun h hr hF => J_lmul hd (kk h hr hF)
theorem MJ_land {a b : Int64} (hd : decode k.2.1 pc = .ok (.land, 1)) (kk : MJ x y h0 d Q k (pc + 1) L (.long (a &&& b) :: st) S) : MJ x y h0 d Q k pc L (.long b :: .long a :: st) S := fun h hr hF => J_land hd (kk h hr hF)
theorem MJ_lor {a b : Int64} (hd : decode k.2.1 pc = .ok (.lor, 1)) (kk : MJ x y h0 d Q k (pc + 1) L (.long (a ||| b) :: st) S) : MJ x y h0 d Q k pc L (.long b :: .long a :: st) S := fun h hr hF => J_lor hd (kk h hr hF)
theorem MJ_ineg {a : Int32} (hd : decode k.2.1 pc = .ok (.ineg, 1)) (kk : MJ x y h0 d Q k (pc + 1) L (.int (0 - a) :: st) S) : MJ x y h0 d Q k pc L (.int a :: st) S := fun h hr hF => J_ineg hd (kk h hr hF)
theorem MJ_lneg {a : Int64} (hd : decode k.2.1 pc = .ok (.lneg, 1)) (kk : MJ x y h0 d Q k (pc + 1) L (.long (0 - a) :: st) S) : MJ x y h0 d Q k pc L (.long a :: st) S := fun h hr hF => J_lneg hd (kk h hr hF)
theorem MJ_i2l {a : Int32} (hd : decode k.2.1 pc = .ok (.i2l, 1)) (kk : MJ x y h0 d Q k (pc + 1) L (.long a.toInt64 :: st) S) : MJ x y h0 d Q k pc L (.int a :: st) S := fun h hr hF => J_i2l hd (kk h hr hF)
theorem MJ_lshl {a : Int64} {b : Int32} (hd : decode k.2.1 pc = .ok (.lshl, 1)) (kk : MJ x y h0 d Q k (pc + 1) L (.long (a <<< (b.toInt64 &&& 63)) :: st) S) : MJ x y h0 d Q k pc L (.int b :: .long a :: st) S := fun h hr hF => J_lshl hd (kk h hr hF)
theorem MJ_lcmp {a b : Int64} (hd : decode k.2.1 pc = .ok (.lcmp, 1)) (kk : MJ x y h0 d Q k (pc + 1) L (.int (lg_cmp a b) :: st) S) : MJ x y h0 d Q k pc L (.long b :: .long a :: st) S := fun h hr hF => J_lcmp hd (kk h hr hF)
theorem MJ_dup {v : Value} (hd : decode k.2.1 pc = .ok (.dup, 1)) (hv : v.category = 1) (kk : MJ x y h0 d Q k (pc + 1) L (v :: v :: st) S) : MJ x y h0 d Q k pc L (v :: st) S := fun h hr hF => J_dup hd hv (kk h hr hF)
theorem MJ_pop {v : Value} (hd : decode k.2.1 pc = .ok (.pop, 1)) (hv : v.category = 1) (kk : MJ x y h0 d Q k (pc + 1) L (st) S) : MJ x y h0 d Q k pc L (v :: st) S := fun h hr hF => J_pop hd hv (kk h hr hF)
theorem MJ_dup2 {v u : Value} (hd : decode k.2.1 pc = .ok (.dup2, 1)) (hv : v.category = 1) (hu : u.category = 1) (kk : MJ x y h0 d Q k (pc + 1) L (v :: u :: v :: u :: st) S) : MJ x y h0 d Q k pc L (v :: u :: st) S := fun h hr hF => J_dup2 hd hv hu (kk h hr hF)
theorem MJ_null (hd : decode k.2.1 pc = .ok (.aconst_null, 1)) (kk : MJ x y h0 d Q k (pc + 1) L (.null :: st) S) : MJ x y h0 d Q k pc L (st) S := fun h hr hF => J_null hd (kk h hr hF)
theorem MJ_if_eq {a : Int32} {off : Int} {tgt : Nat} (hd : decode k.2.1 pc = .ok (.ifCond .eq off, 3)) (ht : (pc : Int) + off = (tgt : Int)) (kt : a = 0 → MJ x y h0 d Q k tgt L st S) (kf : ¬ (a = 0) → MJ x y h0 d Q k (pc + 3) L st S) : MJ x y h0 d Q k pc L (.int a :: st) S := fun h hr hF => J_if_eq hd ht (fun z => kt z h hr hF) (fun z => kf z h hr hF)
theorem MJ_icmp_eq {a b : Int32} {off : Int} {tgt : Nat} (hd : decode k.2.1 pc = .ok (.if_icmp .eq off, 3)) (ht : (pc : Int) + off = (tgt : Int)) (kt : a = b → MJ x y h0 d Q k tgt L st S) (kf : ¬ (a = b) → MJ x y h0 d Q k (pc + 3) L st S) : MJ x y h0 d Q k pc L (.int b :: .int a :: st) S := fun h hr hF => J_icmp_eq hd ht (fun z => kt z h hr hF) (fun z => kf z h hr hF)
theorem MJ_if_ne {a : Int32} {off : Int} {tgt : Nat} (hd : decode k.2.1 pc = .ok (.ifCond .ne off, 3)) (ht : (pc : Int) + off = (tgt : Int)) (kt : ¬ a = 0 → MJ x y h0 d Q k tgt L st S) (kf : a = 0 → MJ x y h0 d Q k (pc + 3) L st S) : MJ x y h0 d Q k pc L (.int a :: st) S := fun h hr hF => J_if_ne hd ht (fun z => kt z h hr hF) (fun z => kf z h hr hF)
theorem MJ_icmp_ne {a b : Int32} {off : Int} {tgt : Nat} (hd : decode k.2.1 pc = .ok (.if_icmp .ne off, 3)) (ht : (pc : Int) + off = (tgt : Int)) (kt : ¬ a = b → MJ x y h0 d Q k tgt L st S) (kf : a = b → MJ x y h0 d Q k (pc + 3) L st S) : MJ x y h0 d Q k pc L (.int b :: .int a :: st) S := fun h hr hF => J_icmp_ne hd ht (fun z => kt z h hr hF) (fun z => kf z h hr hF)
theorem MJ_if_lt {a : Int32} {off : Int} {tgt : Nat} (hd : decode k.2.1 pc = .ok (.ifCond .lt off, 3)) (ht : (pc : Int) + off = (tgt : Int)) (kt : a < 0 → MJ x y h0 d Q k tgt L st S) (kf : ¬ (a < 0) → MJ x y h0 d Q k (pc + 3) L st S) : MJ x y h0 d Q k pc L (.int a :: st) S := fun h hr hF => J_if_lt hd ht (fun z => kt z h hr hF) (fun z => kf z h hr hF)
theorem MJ_icmp_lt {a b : Int32} {off : Int} {tgt : Nat} (hd : decode k.2.1 pc = .ok (.if_icmp .lt off, 3)) (ht : (pc : Int) + off = (tgt : Int)) (kt : a < b → MJ x y h0 d Q k tgt L st S) (kf : ¬ (a < b) → MJ x y h0 d Q k (pc + 3) L st S) : MJ x y h0 d Q k pc L (.int b :: .int a :: st) S := fun h hr hF => J_icmp_lt hd ht (fun z => kt z h hr hF) (fun z => kf z h hr hF)
theorem MJ_if_ge {a : Int32} {off : Int} {tgt : Nat} (hd : decode k.2.1 pc = .ok (.ifCond .ge off, 3)) (ht : (pc : Int) + off = (tgt : Int)) (kt : 0 ≤ a → MJ x y h0 d Q k tgt L st S) (kf : ¬ (0 ≤ a) → MJ x y h0 d Q k (pc + 3) L st S) : MJ x y h0 d Q k pc L (.int a :: st) S := fun h hr hF => J_if_ge hd ht (fun z => kt z h hr hF) (fun z => kf z h hr hF)
theorem MJ_icmp_ge {a b : Int32} {off : Int} {tgt : Nat} (hd : decode k.2.1 pc = .ok (.if_icmp .ge off, 3)) (ht : (pc : Int) + off = (tgt : Int)) (kt : b ≤ a → MJ x y h0 d Q k tgt L st S) (kf : ¬ (b ≤ a) → MJ x y h0 d Q k (pc + 3) L st S) : MJ x y h0 d Q k pc L (.int b :: .int a :: st) S := fun h hr hF => J_icmp_ge hd ht (fun z => kt z h hr hF) (fun z => kf z h hr hF)
theorem MJ_if_gt {a : Int32} {off : Int} {tgt : Nat} (hd : decode k.2.1 pc = .ok (.ifCond .gt off, 3)) (ht : (pc : Int) + off = (tgt : Int)) (kt : 0 < a → MJ x y h0 d Q k tgt L st S) (kf : ¬ (0 < a) → MJ x y h0 d Q k (pc + 3) L st S) : MJ x y h0 d Q k pc L (.int a :: st) S := fun h hr hF => J_if_gt hd ht (fun z => kt z h hr hF) (fun z => kf z h hr hF)
theorem MJ_icmp_gt {a b : Int32} {off : Int} {tgt : Nat} (hd : decode k.2.1 pc = .ok (.if_icmp .gt off, 3)) (ht : (pc : Int) + off = (tgt : Int)) (kt : b < a → MJ x y h0 d Q k tgt L st S) (kf : ¬ (b < a) → MJ x y h0 d Q k (pc + 3) L st S) : MJ x y h0 d Q k pc L (.int b :: .int a :: st) S := fun h hr hF => J_icmp_gt hd ht (fun z => kt z h hr hF) (fun z => kf z h hr hF)
theorem MJ_if_le {a : Int32} {off : Int} {tgt : Nat} (hd : decode k.2.1 pc = .ok (.ifCond .le off, 3)) (ht : (pc : Int) + off = (tgt : Int)) (kt : a ≤ 0 → MJ x y h0 d Q k tgt L st S) (kf : ¬ (a ≤ 0) → MJ x y h0 d Q k (pc + 3) L st S) : MJ x y h0 d Q k pc L (.int a :: st) S := fun h hr hF => J_if_le hd ht (fun z => kt z h hr hF) (fun z => kf z h hr hF)
theorem MJ_icmp_le {a b : Int32} {off : Int} {tgt : Nat} (hd : decode k.2.1 pc = .ok (.if_icmp .le off, 3)) (ht : (pc : Int) + off = (tgt : Int)) (kt : a ≤ b → MJ x y h0 d Q k tgt L st S) (kf : ¬ (a ≤ b) → MJ x y h0 d Q k (pc + 3) L st S) : MJ x y h0 d Q k pc L (.int b :: .int a :: st) S := fun h hr hF => J_icmp_le hd ht (fun z => kt z h hr hF) (fun z => kf z h hr hF)
theorem MJ_goto {off : Int} {tgt : Nat} (hd : decode k.2.1 pc = .ok (.goto off, 3)) (ht : (pc : Int) + off = (tgt : Int)) (kk : MJ x y h0 d Q k tgt L st S) : MJ x y h0 d Q k pc L st S := fun h hr hF => J_goto hd ht (kk h hr hF)
theorem MJ_ifnull_r {a : Nat} {off : Int} (hd : decode k.2.1 pc = .ok (.ifnull off, 3)) (kk : MJ x y h0 d Q k (pc + 3) L st S) : MJ x y h0 d Q k pc L (.ref a :: st) S := fun h hr hF => J_ifnull_r hd (kk h hr hF)
theorem MJ_ifnull_n {off : Int} {tgt : Nat} (hd : decode k.2.1 pc = .ok (.ifnull off, 3)) (ht : (pc : Int) + off = (tgt : Int)) (kk : MJ x y h0 d Q k tgt L st S) : MJ x y h0 d Q k pc L (.null :: st) S := fun h hr hF => J_ifnull_n hd ht (kk h hr hF)
theorem MJ_ifnonnull_r {a : Nat} {off : Int} {tgt : Nat} (hd : decode k.2.1 pc = .ok (.ifnonnull off, 3)) (ht : (pc : Int) + off = (tgt : Int)) (kk : MJ x y h0 d Q k tgt L st S) : MJ x y h0 d Q k pc L (.ref a :: st) S := fun h hr hF => J_ifnonnull_r hd ht (kk h hr hF)
theorem MJ_ifnonnull_n {off : Int} (hd : decode k.2.1 pc = .ok (.ifnonnull off, 3)) (kk : MJ x y h0 d Q k (pc + 3) L st S) : MJ x y h0 d Q k pc L (.null :: st) S := fun h hr hF => J_ifnonnull_n hd (kk h hr hF)
theorem MJ_ifnull_w {w : Option Nat} {off : Int} {tgt : Nat} (hd : decode k.2.1 pc = .ok (.ifnull off, 3)) (ht : (pc : Int) + off = (tgt : Int)) (kt : w = none → MJ x y h0 d Q k tgt L st S) (kf : ∀ a, w = some a → MJ x y h0 d Q k (pc + 3) L st S) : MJ x y h0 d Q k pc L (va_rf w :: st) S := fun h hr hF => J_ifnull_w hd ht (fun z => kt z h hr hF) (fun a z => kf a z h hr hF)
theorem MJ_ifnonnull_w {w : Option Nat} {off : Int} {tgt : Nat} (hd : decode k.2.1 pc = .ok (.ifnonnull off, 3)) (ht : (pc : Int) + off = (tgt : Int)) (kt : ∀ a, w = some a → MJ x y h0 d Q k tgt L st S) (kf : w = none → MJ x y h0 d Q k (pc + 3) L st S) : MJ x y h0 d Q k pc L (va_rf w :: st) S := fun h hr hF => J_ifnonnull_w hd ht (fun a z => kt a z h hr hF) (fun z => kf z h hr hF)
theorem MJ_tswIn {dflt lo hi : Int} {offs : Array Int} {len : Nat} {a : Int32} {off : Int} {tgt : Nat} (hd : decode k.2.1 pc = .ok (.tableswitch dflt lo hi offs, len)) (h1 : ¬ a.toInt < lo) (h2 : ¬ hi < a.toInt) (ho : offs[(a.toInt - lo).toNat]? = some off) (ht : (pc : Int) + off = (tgt : Int)) (kk : MJ x y h0 d Q k tgt L st S) : MJ x y h0 d Q k pc L (.int a :: st) S := fun h hr hF => J_tswIn hd h1 h2 ho ht (kk h hr hF)
theorem MJ_tswOut {dflt lo hi : Int} {offs : Array Int} {len : Nat} {a : Int32} {tgt : Nat} (hd : decode k.2.1 pc = .ok (.tableswitch dflt lo hi offs, len)) (h1 : a.toInt < lo ∨ hi < a.toInt) (ht : (pc : Int) + dflt = (tgt : Int)) (kk : MJ x y h0 d Q k tgt L st S) : MJ x y h0 d Q k pc L (.int a :: st) S := fun h hr hF => J_tswOut hd h1 ht (kk h hr hF)
theorem MJ_lsw {dflt : Int} {ps : Array (Int × Int)} {len : Nat} {a : Int32} {off : Int} {tgt : Nat} (hd : decode k.2.1 pc = .ok (.lookupswitch dflt ps, len)) (hp : (ps.toList.zip (ps.toList.drop 1)).all (fun (a, next) => a.1 < next.1) = true) (ho : Op.lookupswitch.offset ps.toList dflt a.toInt = off) (ht : (pc : Int) + off = (tgt : Int)) (kk : MJ x y h0 d Q k tgt L st S) : MJ x y h0 d Q k pc L (.int a :: st) S := fun h hr hF => J_lsw hd hp ho ht (kk h hr hF)
theorem MJ_getI {idx fid ty : Nat} (hd : decode k.2.1 pc = .ok (.getfield idx, 3)) (hf : om_G k.1.cls idx 7 fid ty) (kk : MJ x y h0 d Q k (pc + 3) L (.int (mI S fid) :: st) S) (hty : ty ≠ 1 ∧ ty ≠ 2 := by decide) : MJ x y h0 d Q k pc L (.ref y.1 :: st) S := fun h hr hF => by
  refine J_getI hd hf hr.1.1 ?_ hty
  rw [hr.2.1]
  exact kk h hr hF
theorem MJ_getA {idx fid : Nat} (hd : decode k.2.1 pc = .ok (.getfield idx, 3)) (hf : om_G k.1.cls idx 7 fid 2) (hm : fid ∈ mAs := by decide) (kk : MJ x y h0 d Q k (pc + 3) L (.ref (y.2 fid) :: st) S) : MJ x y h0 d Q k pc L (.ref y.1 :: st) S := fun h hr hF => J_getRr hd hf hr.1.1 (hr.1.2 _ hm).1 (kk h hr hF)
theorem MJ_putI {idx fid ty : Nat} {v : Int32} {fin : Bool} (hd : decode k.2.1 pc = .ok (.putfield idx, 3)) (hf : om_PF k.1.cls idx 7 fid ty .int fin) (kk : MJ x y h0 d Q k (pc + 3) L st (pI S fid v)) (hty : ty ≠ 1 ∧ ty ≠ 2 := by decide) (hin : fin = true → k.1.name = "<init>" := by first | exact (fun z => by cases z) | exact (fun _ => rfl)) : MJ x y h0 d Q k pc L (.int v :: .ref y.1 :: st) S := fun h hr hF => J_putI hd hf hr.1.1 (kk _ (RepM_sI hr) (FM_sI hF)) hty hin
theorem MJ_putZ {idx fid ty : Nat} {v : Int32} {fin : Bool} (hd : decode k.2.1 pc = .ok (.putfield idx, 3)) (hf : om_PF k.1.cls idx 7 fid ty .boolean fin) (hv : v = 0 ∨ v = 1) (kk : MJ x y h0 d Q k (pc + 3) L st (pI S fid v)) (hty : ty ≠ 1 ∧ ty ≠ 2 := by decide) (hin : fin = true → k.1.name = "<init>" := by first | exact (fun z => by cases z) | exact (fun _ => rfl)) : MJ x y h0 d Q k pc L (.int v :: .ref y.1 :: st) S := fun h hr hF => J_putZ hd hf hr.1.1 hv (kk _ (RepM_sI hr) (FM_sI hF)) hty hin
theorem MJ_iald {f j : Nat} {i : Int32} (hd : decode k.2.1 pc = .ok (.iaload, 1)) (hi : inx i j (ml f)) (hm : f ∈ mAs ∧ mq f = 0 ∧ 400 ≤ f := by decide) (kk : MJ x y h0 d Q k (pc + 1) L (.int (mT S f j) :: st) S) : MJ x y h0 d Q k pc L (.int i :: .ref (y.2 f) :: st) S := fun h hr hF => by
  have h1 := hr.1.2 f hm.1
  refine J_iald hd h1.2.1 ⟨by have := mr_ge hm.2.2; omega, by unfold kOf mr; have := hm.2.1; omega⟩ (by rw [h1.2.2]; exact hi) ?_
  rw [hr.2.2.1 f j hm.2.2]
  exact kk h hr hF
theorem MJ_zald {f j : Nat} {i : Int32} (hd : decode k.2.1 pc = .ok (.baload, 1)) (hi : inx i j (ml f)) (hm : f ∈ mAs ∧ mq f = 2 ∧ 400 ≤ f := by decide) (kk : MJ x y h0 d Q k (pc + 1) L (.int (mT S f j) :: st) S) : MJ x y h0 d Q k pc L (.int i :: .ref (y.2 f) :: st) S := fun h hr hF => by
  have h1 := hr.1.2 f hm.1
  refine J_zald hd h1.2.1 ⟨by have := mr_ge hm.2.2; omega, by unfold kOf mr; have := hm.2.1; omega⟩ (by rw [h1.2.2]; exact hi) ?_
  rw [hr.2.2.1 f j hm.2.2]
  exact kk h hr hF
theorem MJ_lald {f j : Nat} {i : Int32} (hd : decode k.2.1 pc = .ok (.laload, 1)) (hi : inx i j (ml f)) (hm : f ∈ mAs ∧ mq f = 1 ∧ 400 ≤ f := by decide) (kk : MJ x y h0 d Q k (pc + 1) L (.long (mJ S f j) :: st) S) : MJ x y h0 d Q k pc L (.int i :: .ref (y.2 f) :: st) S := fun h hr hF => by
  have h1 := hr.1.2 f hm.1
  refine J_lald hd h1.2.1 ⟨by have := mr_ge hm.2.2; omega, by unfold kOf mr; have := hm.2.1; omega⟩ (by rw [h1.2.2]; exact hi) ?_
  rw [hr.2.2.2 f j hm.2.2]
  exact kk h hr hF
theorem MJ_iast {f j : Nat} {i v : Int32} (hd : decode k.2.1 pc = .ok (.iastore, 1)) (hi : inx i j (ml f)) (hm : f ∈ mAs ∧ mq f = 0 ∧ 400 ≤ f := by decide) (kk : MJ x y h0 d Q k (pc + 1) L st (pT S f j v)) : MJ x y h0 d Q k pc L (.int v :: .int i :: .ref (y.2 f) :: st) S := fun h hr hF => by
  have h1 := hr.1.2 f hm.1
  refine J_iast hd h1.2.1 ⟨by have := mr_ge hm.2.2; omega, by unfold kOf mr; have := hm.2.1; omega⟩ (by rw [h1.2.2]; exact hi) ?_
  exact kk _ (RepM_tI hm.2.2 hr) (FM_tI hm.2.2 hF)
theorem MJ_zast {f j : Nat} {i v : Int32} (hd : decode k.2.1 pc = .ok (.bastore, 1)) (hi : inx i j (ml f)) (hv : v = 0 ∨ v = 1) (hm : f ∈ mAs ∧ mq f = 2 ∧ 400 ≤ f := by decide) (kk : MJ x y h0 d Q k (pc + 1) L st (pT S f j v)) : MJ x y h0 d Q k pc L (.int v :: .int i :: .ref (y.2 f) :: st) S := fun h hr hF => by
  have h1 := hr.1.2 f hm.1
  refine J_zast hd h1.2.1 ⟨by have := mr_ge hm.2.2; omega, by unfold kOf mr; have := hm.2.1; omega⟩ (by rw [h1.2.2]; exact hi) hv ?_
  exact kk _ (RepM_tI hm.2.2 hr) (FM_tI hm.2.2 hF)
theorem MJ_last {f j : Nat} {i : Int32} {v : Int64} (hd : decode k.2.1 pc = .ok (.lastore, 1)) (hi : inx i j (ml f)) (hm : f ∈ mAs ∧ mq f = 1 ∧ 400 ≤ f := by decide) (kk : MJ x y h0 d Q k (pc + 1) L st (pJ S f j v)) : MJ x y h0 d Q k pc L (.long v :: .int i :: .ref (y.2 f) :: st) S := fun h hr hF => by
  have h1 := hr.1.2 f hm.1
  refine J_last hd h1.2.1 ⟨by have := mr_ge hm.2.2; omega, by unfold kOf mr; have := hm.2.1; omega⟩ (by rw [h1.2.2]; exact hi) ?_
  exact kk _ (RepM_tJ hm.2.2 hr) (FM_tJ hm.2.2 hF)
theorem MM.ofJ {n : Nat} {as : List Value} (hB : om_B k n) (hl : (lg_sl as).length ≤ k.2.2.1) (kk : ∀ h0, MJ x y h0 d Q k 0 (lv_args 0 as) [] S) : MM x y d k as S Q := fun h0 h hr hF => Mt.ofJ hB hl (kk h0 h hr hF)
/-- a contract that holds of every heap and changes nothing -/
theorem MM.pure {as : List Value} {P : Option Value → Prop} (hm : ∀ h, Mt x d k 0 0 as h (fun v h' => P v ∧ h' = h)) : MM x y d k as S (fun v S' => P v ∧ S' = S) := fun h0 h hr hF => (hm h).weak (fun v h' z => by
  obtain ⟨z1, rfl⟩ := z
  exact ⟨S, hr, hF, z1, rfl⟩)
variable {Q' : Option Value → Ms → Prop}
theorem MJ_callV {k' : om_k} {idx n d' : Nat} {As rest : List Value} (hm : MM x y d' k' (.ref y.1 :: As) S Q') (hd : decode k.2.1 pc = .ok (.invokevirtual idx, 3)) (hl : Cond.methodLink k.1.cls idx k'.1 ∈ om_tb) (hv : om_V k' n) (hn : As.length = n) (hcl : k'.1.cls = RX7) (hst : st = As.reverse ++ .ref y.1 :: rest) (hw : (rest.map fun v => v.category).sum ≤ 8)
    (hR : d' + 1 ≤ d ∧ 8 + (k'.2.2.1 + 11) + 40 * d' ≤ 40 * d) (kk : ∀ v S', Q' v S' → MJ x y h0 d Q k (pc + 3) L (v.toList ++ rest) S') : MJ x y h0 d Q k pc L st S := fun h hr hF => J_callV (ci := 7) (hm h0 h hr hF) hd hl hv hn hr.1.1 (by decide) (by rw [hcl]; rfl) hst hw hR ⟨Nat.le_refl _, Nat.le_refl _⟩ (fun v h' ⟨S', r1, r2, r3⟩ => kk v S' r3 h' r1 r2)
theorem MJ_callS {k' : om_k} {idx n d' : Nat} {As rest : List Value} (hm : MM x y d' k' As S Q') (hd : decode k.2.1 pc = .ok (.invokestatic idx, 3)) (hl : Cond.methodLink k.1.cls idx k'.1 ∈ om_tb) (hv : om_Sx k' n) (hn : As.length = n) (hst : st = As.reverse ++ rest) (hw : (rest.map fun v => v.category).sum ≤ 8)
    (hR : d' + 1 ≤ d ∧ 8 + (k'.2.2.1 + 11) + 40 * d' ≤ 40 * d) (kk : ∀ v S', Q' v S' → MJ x y h0 d Q k (pc + 3) L (v.toList ++ rest) S') : MJ x y h0 d Q k pc L st S := fun h hr hF => J_callS (hm h0 h hr hF) hd hl hv hn hst hw hR ⟨Nat.le_refl _, Nat.le_refl _⟩ (fun v h' ⟨S', r1, r2, r3⟩ => kk v S' r3 h' r1 r2)
theorem MJ_ireturn {v : Int32} (hd : decode k.2.1 pc = .ok (.ireturn, 1)) (hr : k.2.2.2 = some .int) (hq : Q (some (.int v)) S) : MJ x y h0 d Q k pc L [.int v] S := fun h hr2 hF => J_ireturn hd hr ⟨S, hr2, hF, hq⟩ (Nat.le_refl _) (Nat.le_refl _)
theorem MJ_zreturn {v : Int32} (hd : decode k.2.1 pc = .ok (.ireturn, 1)) (hr : k.2.2.2 = some .boolean) (hv : v = 0 ∨ v = 1) (hq : Q (some (.int v)) S) : MJ x y h0 d Q k pc L [.int v] S := fun h hr2 hF => J_zreturn hd hr hv ⟨S, hr2, hF, hq⟩ (Nat.le_refl _) (Nat.le_refl _)
theorem MJ_lreturn {v : Int64} (hd : decode k.2.1 pc = .ok (.lreturn, 1)) (hr : k.2.2.2 = some .long) (hq : Q (some (.long v)) S) : MJ x y h0 d Q k pc L [.long v] S := fun h hr2 hF => J_lreturn hd hr ⟨S, hr2, hF, hq⟩ (Nat.le_refl _) (Nat.le_refl _)
theorem MJ_return (hd : decode k.2.1 pc = .ok (.return_, 1)) (hr : k.2.2.2 = none) (hq : Q none S) : MJ x y h0 d Q k pc L [] S := fun h hr2 hF => J_return hd hr ⟨S, hr2, hF, hq⟩ (Nat.le_refl _) (Nat.le_refl _)
end MJR
end
section
/-! numbers -/
theorem n_lt (a b : Int32) : a < b ↔ a.toInt < b.toInt := Int32.lt_iff_toInt_lt
theorem n_le (a b : Int32) : a ≤ b ↔ a.toInt ≤ b.toInt := Int32.le_iff_toInt_le
theorem n_eq (a b : Int32) : a = b ↔ a.toInt = b.toInt := Int32.toInt_inj.symm
theorem n_lt64 (a b : Int64) : a < b ↔ a.toInt < b.toInt := Int64.lt_iff_toInt_lt
theorem n_le64 (a b : Int64) : a ≤ b ↔ a.toInt ≤ b.toInt := Int64.le_iff_toInt_le
theorem n_eq64 (a b : Int64) : a = b ↔ a.toInt = b.toInt := Int64.toInt_inj.symm
theorem nI_int {n : Nat} (h : n < 2147483648) : (nI n).toInt = (n : Int) := nI_toInt h
theorem nI_lti {a b : Nat} (ha : a < 2147483648) (hb : b < 2147483648) : nI a < nI b ↔ a < b := by rw [n_lt, nI_int ha, nI_int hb]; omega
theorem nI_lei {a b : Nat} (ha : a < 2147483648) (hb : b < 2147483648) : nI a ≤ nI b ↔ a ≤ b := by rw [n_le, nI_int ha, nI_int hb]; omega
theorem nI_eqi {a b : Nat} (ha : a < 2147483648) (hb : b < 2147483648) : nI a = nI b ↔ a = b := by rw [n_eq, nI_int ha, nI_int hb]; omega
theorem zI_add (a b : Nat) : nI a + nI b = nI (a + b) := by simp [nI, Int32.ofNat_add]
theorem nI_mul (a b : Nat) : nI a * nI b = nI (a * b) := by simp [nI, Int32.ofNat_mul]
theorem nI_sub {a b : Nat} (h : b ≤ a) : nI a - nI b = nI (a - b) := by
  have : nI a = nI (a - b) + nI b := by rw [zI_add]; congr 1; omega
  rw [this, Int32.add_sub_cancel]
theorem nI_inc (k : Nat) : nI k + Int32.ofInt 1 = nI (k + 1) := by rw [nI_succ]; rfl
theorem nI_inc1 (k : Nat) : nI k + 1 = nI (k + 1) := (nI_succ k).symm
theorem nI_lit (n : Nat) : (OfNat.ofNat n : Int32) = nI n := rfl
/-- an int that is not below 0 is some nI j -/
theorem zI_of {v : Int32} (h : 0 ≤ v) : v = nI v.toInt.toNat ∧ v.toInt.toNat < 2147483648 := by
  have h1 : 0 ≤ v.toInt := by have := (n_le 0 v).mp h; simpa using this
  have h2 := Int32.toInt_lt v
  have h3 : v.toInt.toNat < 2147483648 := by omega
  refine ⟨?_, h3⟩
  rw [n_eq, nI_int h3]
  omega
theorem zI_ex {v : Int32} {n : Nat} (h : 0 ≤ v.toInt) (h2 : v.toInt < (n : Int)) : ∃ j, v = nI j ∧ j < n ∧ j < 2147483648 := by
  obtain ⟨h3, h4⟩ := zI_of ((n_le 0 v).mpr (by simpa using h))
  exact ⟨_, h3, by omega, h4⟩
def bi (b : Bool) : Int32 := if b then 1 else 0
theorem bi_01 {b : Bool} : bi b = 0 ∨ bi b = 1 := by cases b; exact Or.inl rfl; exact Or.inr rfl
theorem bi_0 {b : Bool} : bi b = 0 ↔ b = false := by cases b <;> decide
theorem bi_1 {b : Bool} : ¬ bi b = 0 ↔ b = true := by cases b <;> decide
theorem bi_t : bi true = 1 := rfl
theorem bi_f : bi false = 0 := rfl
theorem wide_le (a b : Int32) : a.toInt64 ≤ b.toInt64 ↔ a ≤ b := by rw [n_le64, n_le, Int32.toInt_toInt64, Int32.toInt_toInt64]
theorem wide_lt (a b : Int32) : a.toInt64 < b.toInt64 ↔ a < b := by rw [n_lt64, n_lt, Int32.toInt_toInt64, Int32.toInt_toInt64]
/-- whether l ≤ v ≤ m, of longs -/
def inL (v l m : Int64) : Bool := decide (l ≤ v ∧ v ≤ m)
/-- whether an int lies in 0 .. n - 1 -/
def inN (v : Int32) (n : Nat) : Bool := decide (0 ≤ v.toInt ∧ v.toInt < (n : Int))
theorem inN_ex {v : Int32} {n : Nat} (h : inN v n = true) : ∃ j, v = nI j ∧ j < n ∧ j < 2147483648 := by
  have := of_decide_eq_true h
  exact zI_ex this.1 this.2
theorem inN_nI {j n : Nat} (h : j < 2147483648) : inN (nI j) n = decide (j < n) := by
  unfold inN
  rw [nI_int h]
  congr 1
  apply propext
  omega
theorem inL_inN {v : Int32} {m : Int64} (n : Nat) (hm : m.toInt + 1 = (n : Int)) : inL v.toInt64 0 m = inN v n := by
  unfold inL inN
  congr 1
  apply propext
  rw [n_le64, n_le64, Int32.toInt_toInt64]
  have : (0 : Int64).toInt = 0 := by decide
  omega
theorem nI_m1 {n : Nat} (h : n < 2147483648) : (nI n - 1).toInt64.toInt + 1 = (n : Int) := by
  rw [Int32.toInt_toInt64]
  cases n with
  | zero => decide
  | succ n => rw [nI_pred, nI_int (by omega)]; omega
end
section
/-! the reference, method by method, as functions of its state (Ms) -/
theorem mI_pI (S : Ms) (f g : Nat) (v : Int32) : mI (pI S f v) g = if g = f then v else mI S g := rfl
theorem mI_pT (S : Ms) (f j g : Nat) (v : Int32) : mI (pT S f j v) g = mI S g := rfl
theorem mI_pJ (S : Ms) (f j g : Nat) (v : Int64) : mI (pJ S f j v) g = mI S g := rfl
theorem mT_pI (S : Ms) (f g i : Nat) (v : Int32) : mT (pI S f v) g i = mT S g i := rfl
theorem mT_pT (S : Ms) (f j g i : Nat) (v : Int32) : mT (pT S f j v) g i = if g = f ∧ i = j then v else mT S g i := rfl
theorem mT_pJ (S : Ms) (f j g i : Nat) (v : Int64) : mT (pJ S f j v) g i = mT S g i := rfl
theorem mJ_pI (S : Ms) (f g i : Nat) (v : Int32) : mJ (pI S f v) g i = mJ S g i := rfl
theorem mJ_pT (S : Ms) (f j g i : Nat) (v : Int32) : mJ (pT S f j v) g i = mJ S g i := rfl
theorem mJ_pJ (S : Ms) (f j g i : Nat) (v : Int64) : mJ (pJ S f j v) g i = if g = f ∧ i = j then v else mJ S g i := rfl
def tn (v : Int32) : Nat := v.toInt.toNat
theorem tn_nI {n : Nat} (h : n < 2147483648) : tn (nI n) = n := by unfold tn; rw [nI_int h]; omega
theorem inN_tn {v : Int32} {n : Nat} (h : inN v n = true) : v = nI (tn v) ∧ tn v < n ∧ tn v < 2147483648 := by
  obtain ⟨j, rfl, h1, h2⟩ := inN_ex h
  rw [tn_nI h2]
  exact ⟨rfl, h1, h2⟩
theorem inx_v {v : Int32} {n : Nat} (h : inN v n = true) : inx v (tn v) n := by
  obtain ⟨h1, h2, h3⟩ := inN_tn h
  have h4 : (nI (tn v)).toNatClampNeg = tn v := nI_clamp h3
  have h5 : ¬ nI (tn v) < 0 := nI_pos h3
  rw [← h1] at h4 h5
  exact ⟨h4, h5, h2⟩
theorem inx_e {v : Int32} {j n : Nat} (e : v = nI j) (h : j < n) (hn : n ≤ 2147483648) : inx v j n := by rw [e]; exact inx_n h hn
def nA (S : Ms) : Nat := tn (mI S 453)
def nL (S : Ms) : Nat := tn (mI S 468)
def nR (S : Ms) : Nat := tn (mI S 476)
def okV (v : Int64) : Bool := inL v 0 1000000000000
/-- LOWEST of a name, as the first k asks tell it -/
def lowF (S : Ms) (n : Int32) : Nat → Int32
  | 0 => mT S 451 (tn n)
  | k + 1 => if mT S 454 k = n ∧ mT S 455 k = mT S 450 (tn n) ∧ mT S 463 k = 0 ∧ mT S 456 k < lowF S n k then mT S 456 k else lowF S n k
def lowS (S : Ms) (n : Int32) : Int32 := lowF S n (nA S)
def usedUp (S : Ms) (n : Int32) : Bool := decide (lowS S n + mI S 448 ≤ mT S 451 (tn n))
def sendF (S : Ms) (ask : Int32) (ans : Bool) (v : Int64) : Ms :=
  if mI S 485 ≠ 0 then S
  else if mI S 468 = 120 then pI (pI S 486 (mI S 486 + 1)) 483 (mI S 483 + 1)
  else pI (pT (pJ (pT (pT (pT (pI S 486 (mI S 486 + 1)) 469 (nL S) ask) 470 (nL S) (bi ans)) 471 (nL S) (if ans then -1 else lowS S (mT S 454 (tn ask)))) 472 (nL S) v) 473 (nL S) 0) 468 (mI S 468 + 1)
def newAskF (S : Ms) (n sv kind a b t amt far : Int32) : Ms :=
  pT (pT (pT (pT (pT (pT (pT (pT (pT (pT (pT (pT (pT (pI S 453 (mI S 453 + 1)) 454 (nA S) n) 455 (nA S) (mT S 450 (tn n))) 456 (nA S) (mT S 451 (tn n))) 451 (tn n) (mT S 451 (tn n) + 1)) 457 (nA S) sv) 458 (nA S) kind) 459 (nA S) a) 460 (nA S) b) 461 (nA S) t) 462 (nA S) amt) 463 (nA S) 0) 465 (nA S) far) 466 (nA S) (-1)
def fnd (S : Ms) (o num : Int32) : Option Nat := (List.range (nR S)).find? (fun k => decide (mT S 477 k = o ∧ mT S 478 k = num))
def oI : Option Nat → Int32
  | none => -1
  | some k => nI k
def putAt (S : Ms) (k : Nat) (o num st : Int32) (ans : Int64) (own : Int32) : Ms := pT (pJ (pT (pT (pT S 477 k o) 478 k num) 479 k st) 480 k ans) 481 k own
def putRecF (S : Ms) (o num st : Int32) (ans : Int64) (own : Int32) : Ms :=
  match fnd S o num with
  | some k => putAt S k o num st ans own
  | none => putAt (pI S 476 (mI S 476 + 1)) (nR S) o num st ans own
/-- record k is put at the place l -/
def recTo (S : Ms) (l k : Nat) : Ms := pT (pJ (pT (pT (pT S 477 l (mT S 477 k)) 478 l (mT S 478 k)) 479 l (mT S 479 k)) 480 l (mJ S 480 k)) 481 l (mT S 481 k)
def fgF (S : Ms) (o below : Int32) : Nat → Ms × Nat
  | 0 => (S, 0)
  | k + 1 => if mT (fgF S o below k).1 477 k ≠ o ∨ below ≤ mT (fgF S o below k).1 478 k then (recTo (fgF S o below k).1 (fgF S o below k).2 k, (fgF S o below k).2 + 1) else fgF S o below k
def forgetF (S : Ms) (o below : Int32) : Ms := pI (fgF S o below (nR S)).1 476 (nI (fgF S o below (nR S)).2)
def goneF (S : Ms) (o below : Int32) : Nat := nR S - (fgF S o below (nR S)).2
def doneF (S : Ms) (o ask : Int32) (v : Int64) : Ms := sendF (putRecF S o (mT S 456 (tn ask)) 1 v (-1)) ask true v
def cancelA (S : Ms) (o ask : Int32) : Int64 :=
  if mT S 462 (tn ask) = mT S 456 (tn ask) ∨ mT S 462 (tn ask) < mT S 475 (tn o) then 0 else
  match fnd S o (mT S 462 (tn ask)) with
  | some r => if mT S 479 r = 1 then 0 else if mT S 479 r = 2 then 2 else if mT S 475 (tn o) + mI S 448 ≤ mT S 462 (tn ask) then 3 else 1
  | none => if mT S 475 (tn o) + mI S 448 ≤ mT S 462 (tn ask) then 3 else 1
def cancelF (S : Ms) (o ask : Int32) : Ms :=
  doneF (if cancelA S o ask = 1 then putRecF S o (mT S 462 (tn ask)) 3 0 (-1) else S) o ask (cancelA S o ask)
def letF (S : Ms) (sv ask : Int32) (a : Int32) : Bool :=
  if mT S 458 (tn ask) = 1 then decide (5 < mT S 454 (tn ask)) || okV (mJ S 452 (tn a) + (mT S 462 (tn ask)).toInt64)
  else if mT S 458 (tn ask) = 2 then decide (a = 6 * sv + mT S 460 (tn ask)) || (okV (mJ S 452 (tn a) - (mT S 462 (tn ask)).toInt64) && okV (mJ S 452 (tn (6 * sv + mT S 460 (tn ask))) + (mT S 462 (tn ask)).toInt64))
  else okV (mJ S 452 (tn a) - (mT S 462 (tn ask)).toInt64) && (decide (mI S 453 < 300) && !usedUp S (6 + sv))
def movedF (S : Ms) (sv ask : Int32) (a : Int32) : Ms :=
  let by_ := (mT S 462 (tn ask)).toInt64
  let S1 := pT S 467 (tn ask) 1
  let S2 := pJ S1 452 (tn a) (mJ S1 452 (tn a) + (if mT S 458 (tn ask) = 1 then by_ else 0 - by_))
  pJ S2 452 (tn (6 * sv + mT S 460 (tn ask))) (mJ S2 452 (tn (6 * sv + mT S 460 (tn ask))) + (if mT S 458 (tn ask) = 2 then by_ else 0))
def farF (S : Ms) (sv o ask : Int32) : Ms :=
  let S4 := newAskF S (6 + sv) (mT S 461 (tn ask)) 1 (mT S 460 (tn ask)) 0 0 (mT S 462 (tn ask)) ask
  let S5 := pT S4 466 (tn ask) (mI S 453)
  let S6 := putRecF S5 o (mT S5 456 (tn ask)) 2 0 (mI S 453)
  sendF S6 (mI S 453) false 0
def changeF (S : Ms) (sv o ask a : Int32) : Ms :=
  if letF S sv ask a = false then doneF S o ask (-1)
  else if mT S 458 (tn ask) ≠ 3 then doneF (movedF S sv ask a) o ask (mJ (movedF S sv ask a) 452 (tn a))
  else farF (movedF S sv ask a) sv o ask
def actF (S : Ms) (sv o ask : Int32) : Ms :=
  if mT S 458 (tn ask) = 0 then sendF S ask true (mJ S 452 (tn (6 * sv + mT S 459 (tn ask))))
  else if mT S 458 (tn ask) = 4 then cancelF S o ask
  else changeF S sv o ask (6 * sv + mT S 459 (tn ask))
def work2 (S : Ms) (sv o ask : Int32) : Ms :=
  match fnd S o (mT S 456 (tn ask)) with
  | some r => if mT S 479 r ≠ 2 then sendF S ask true (if mT S 479 r = 1 then mJ S 480 r else -2)
      else if mT S 463 (tn (mT S 481 r)) = 0 then sendF S (mT S 481 r) false 0 else S
  | none => actF S sv o ask
/-- the life, then LOW, as the letter tells them -/
def learnL (S : Ms) (o ask : Int32) : Ms := if mT S 474 (tn o) < mT S 455 (tn ask) then forgetF (pT (pT S 474 (tn o) (mT S 455 (tn ask))) 475 (tn o) 1) o 2147483647 else S
def learnW (S : Ms) (o low : Int32) : Ms := if mT S 475 (tn o) < low then forgetF (pT S 475 (tn o) low) o low else S
def workF (S : Ms) (sv ask low : Int32) (up : Bool) : Ms :=
  let o := 10 * sv + mT S 454 (tn ask)
  if mT S 455 (tn ask) < mT S 474 (tn o) then (if up then S else sendF S ask true (-3)) else
  let S2 := learnW (learnL S o ask) o low
  if up = true ∨ mT S2 456 (tn ask) < mT S2 475 (tn o) then S2 else work2 S2 sv o ask
def thruF (S1 : Ms) (sv own : Int32) : Ms :=
  match fnd S1 (10 * sv + mT S1 454 (tn (mT S1 465 (tn own)))) (mT S1 456 (tn (mT S1 465 (tn own)))) with
  | some r => if mT S1 479 r = 2 ∧ mT S1 481 r = own then
      sendF (pJ (pT S1 479 r 1) 480 r (mJ S1 452 (tn (6 * sv + mT S1 459 (tn (mT S1 465 (tn own))))))) (mT S1 465 (tn own)) true (mJ S1 452 (tn (6 * sv + mT S1 459 (tn (mT S1 465 (tn own)))))) else S1
  | none => S1
def throughF (S : Ms) (sv own : Int32) (v : Int64) : Ms :=
  if mT S 463 (tn own) ≠ 0 then S else thruF (pJ (pT S 463 (tn own) 1) 464 (tn own) v) sv own
def hearF (S : Ms) (ask : Int32) (v : Int64) : Ms :=
  if mT S 463 (tn ask) = 0 then pJ (pT S 463 (tn ask) (if v = -3 ∧ mI S 487 ≠ 0 then 2 else 1)) 464 (tn ask) v else S
def endOfL (S : Ms) (ask : Int32) (ans : Bool) : Int32 := if ans then mT S 454 (tn ask) else 6 + mT S 457 (tn ask)
def comes1 (S : Ms) (ask : Int32) (ans : Bool) (low : Int32) (v : Int64) (bent : Bool) (moment : Int32) : Ms :=
  if ¬ (0 < moment ∧ bent = false) then S
  else if ans = false then workF S (mT S 457 (tn ask)) ask low (decide (moment = 1))
  else if 5 < mT S 454 (tn ask) then (if 1 < moment then throughF S (mT S 454 (tn ask) - 6) ask v else S)
  else hearF S ask v
def comesF (S : Ms) (ask : Int32) (ans : Bool) (low : Int32) (v : Int64) (bent : Bool) (moment : Int32) : Ms :=
  if mT S 449 (tn (endOfL S ask ans)) ≠ 0 then S else
  let S2 := pI (comes1 (pI S 485 (bi (decide (moment < 3)))) ask ans low v bent moment) 485 0
  if moment < 3 then pI (pT S2 449 (tn (endOfL S ask ans)) 1) 484 (mI S2 484 + 1) else S2
def letTo (S : Ms) (k : Nat) : Ms := pT (pJ (pT (pT (pT S 469 k (mT S 469 (k + 1))) 470 k (mT S 470 (k + 1))) 471 k (mT S 471 (k + 1))) 472 k (mJ S 472 (k + 1))) 473 k (mT S 473 (k + 1))
def rmF (S : Ms) (i : Nat) : Nat → Ms
  | 0 => S
  | m + 1 => letTo (rmF S i m) (i + m)
def removeF (S : Ms) (i : Nat) : Ms := rmF (pI S 468 (mI S 468 - 1)) i (nL S - 1 - i)
def bringsF (S : Ms) (i : Nat) (moment : Int32) : Ms :=
  let S1 := pI S 487 (bi (decide (mT S 470 i ≠ 0 ∧ mJ S 472 i = -3)))
  let S2 := removeF S1 i
  let S3 := pI (pI S2 482 (mI S2 482 + 1)) 486 0
  comesF S3 (mT S 469 i) (decide (mT S 470 i ≠ 0)) (mT S 471 i) (mJ S 472 i) (decide (mT S 473 i ≠ 0)) moment
end
section
/-! the reference's small methods -/
set_option maxRecDepth 100000 in
set_option maxHeartbeats 4000000 in
theorem m_in (x : om_x) (h : Hp) (v l m : Int64) : Mt x 0 kX7_in 0 0 [.long v, .long l, .long m] h (fun z h' => z = some (.int (bi (inL v l m))) ∧ h' = h) := by
  refine Mt.ofJ mkX7_in.1 (Nat.le_of_ble_eq_true rfl) ?_
  refine J_lload_n dX7_in_0 rfl rfl ?_
  refine J_lload_n dX7_in_1 rfl rfl ?_
  refine J_lcmp dX7_in_2 ?_
  refine J_if_lt (tgt := 17) dX7_in_3 (by decide) (fun c3 => ?_) (fun c3 => ?_)
  · refine J_iconst (v := 0) dX7_in_17 (by decide) ?_
    have e : bi (inL v l m) = 0 := by
      rw [bi_0]; unfold inL; rw [lg_cmp_lt] at c3; rw [decide_eq_false_iff_not]; intro z; rw [n_lt64] at c3; have := z.1; rw [n_le64] at this; omega
    exact J_zreturn dX7_in_18 rfl (by first | exact Or.inl rfl | exact Or.inr rfl | exact bi_01) ⟨by rw [e], rfl⟩ (Nat.le_of_ble_eq_true rfl) (Nat.le_of_ble_eq_true rfl)
  · refine J_lload_n dX7_in_6 rfl rfl ?_
    refine J_lload dX7_in_7 rfl ?_
    refine J_lcmp dX7_in_9 ?_
    refine J_if_gt (tgt := 17) dX7_in_10 (by decide) (fun c10 => ?_) (fun c10 => ?_)
    · refine J_iconst (v := 0) dX7_in_17 (by decide) ?_
      have e : bi (inL v l m) = 0 := by
        rw [bi_0]; unfold inL; rw [lg_cmp_gt] at c10; rw [decide_eq_false_iff_not]; intro z; rw [n_lt64] at c10; have := z.2; rw [n_le64] at this; omega
      exact J_zreturn dX7_in_18 rfl (by first | exact Or.inl rfl | exact Or.inr rfl | exact bi_01) ⟨by rw [e], rfl⟩ (Nat.le_of_ble_eq_true rfl) (Nat.le_of_ble_eq_true rfl)
    · refine J_iconst (v := 1) dX7_in_13 (by decide) ?_
      refine J_goto (tgt := 18) dX7_in_14 (by decide) ?_
      have e : bi (inL v l m) = 1 := by
        have : inL v l m = true := by
          unfold inL; rw [lg_cmp_lt] at c3; rw [lg_cmp_gt] at c10; rw [n_lt64] at c3 c10; rw [decide_eq_true_iff, n_le64, n_le64]; omega
        rw [this]; rfl
      exact J_zreturn dX7_in_18 rfl (by first | exact Or.inl rfl | exact Or.inr rfl | exact bi_01) ⟨by rw [e], rfl⟩ (Nat.le_of_ble_eq_true rfl) (Nat.le_of_ble_eq_true rfl)
section M1
variable {x : om_x} {y : om_y} {S : Ms}
theorem mm_in (v l m : Int64) : MM x y 0 kX7_in [.long v, .long l, .long m] S (fun z S' => z = some (.int (bi (inL v l m))) ∧ S' = S) := MM.pure (fun h => m_in x h v l m)
theorem in_m1 {v a : Int32} {n : Nat} (ha : inN a n = true) (hb : n ≤ 1000) : inL v.toInt64 0 (a - 1).toInt64 = inN v (tn a) := by
  obtain ⟨h1, h2, h3⟩ := inN_tn ha
  have := nI_m1 h3
  rw [← h1] at this
  exact inL_inN _ this
set_option maxRecDepth 100000 in
set_option maxHeartbeats 4000000 in
theorem mm_isAsk {v : Int32} (hn : inN (mI S 453) 301 = true) : MM x y 1 kX7_isAsk [.ref y.1, .int v] S (fun z S' => z = some (.int (bi (inN v (nA S)))) ∧ S' = S) := by
  refine MM.ofJ mkX7_isAsk.1 (Nat.le_of_ble_eq_true rfl) fun h0 => ?_
  refine MJ_iload_n dX7_isAsk_0 rfl rfl ?_
  refine MJ_i2l dX7_isAsk_1 ?_
  refine MJ_lconst (v := 0) dX7_isAsk_2 (by decide) ?_
  refine MJ_aload_n dX7_isAsk_3 rfl rfl isR_r ?_
  refine MJ_getI dX7_isAsk_4 g_X7_106 ?_
  refine MJ_iconst (v := 1) dX7_isAsk_7 (by decide) ?_
  refine MJ_isub dX7_isAsk_8 ?_
  refine MJ_i2l dX7_isAsk_9 ?_
  refine MJ_pc (pc' := 10) rfl ?_
  refine MJ_callS (mm_in _ _ _) dX7_isAsk_10 ml_X7_109 mkX7_in rfl rfl (Nat.le_of_ble_eq_true rfl) ⟨Nat.le_of_ble_eq_true rfl, Nat.le_of_ble_eq_true rfl⟩ (fun v10 h10 q10 => ?_)
  obtain ⟨rfl, z10⟩ := q10
  rw [z10]
  exact MJ_zreturn dX7_isAsk_13 rfl (by first | exact Or.inl rfl | exact Or.inr rfl | exact bi_01) ⟨by rw [in_m1 hn (by decide)]; rfl, rfl⟩
set_option maxRecDepth 100000 in
set_option maxHeartbeats 4000000 in
theorem mm_isLetter {v : Int32} (hn : inN (mI S 468) 121 = true) : MM x y 1 kX7_isLetter [.ref y.1, .int v] S (fun z S' => z = some (.int (bi (inN v (nL S)))) ∧ S' = S) := by
  refine MM.ofJ mkX7_isLetter.1 (Nat.le_of_ble_eq_true rfl) fun h0 => ?_
  refine MJ_iload_n dX7_isLetter_0 rfl rfl ?_
  refine MJ_i2l dX7_isLetter_1 ?_
  refine MJ_lconst (v := 0) dX7_isLetter_2 (by decide) ?_
  refine MJ_aload_n dX7_isLetter_3 rfl rfl isR_r ?_
  refine MJ_getI dX7_isLetter_4 g_X7_124 ?_
  refine MJ_iconst (v := 1) dX7_isLetter_7 (by decide) ?_
  refine MJ_isub dX7_isLetter_8 ?_
  refine MJ_i2l dX7_isLetter_9 ?_
  refine MJ_pc (pc' := 10) rfl ?_
  refine MJ_callS (mm_in _ _ _) dX7_isLetter_10 ml_X7_109 mkX7_in rfl rfl (Nat.le_of_ble_eq_true rfl) ⟨Nat.le_of_ble_eq_true rfl, Nat.le_of_ble_eq_true rfl⟩ (fun v10 h10 q10 => ?_)
  obtain ⟨rfl, z10⟩ := q10
  rw [z10]
  exact MJ_zreturn dX7_isLetter_13 rfl (by first | exact Or.inl rfl | exact Or.inr rfl | exact bi_01) ⟨by rw [in_m1 hn (by decide)]; rfl, rfl⟩
set_option maxRecDepth 100000 in
set_option maxHeartbeats 4000000 in
theorem mm_isServer {v : Int32} : MM x y 1 kX7_isServer [.int v] S (fun z S' => z = some (.int (bi (inN v 4))) ∧ S' = S) := by
  refine MM.ofJ mkX7_isServer.1 (Nat.le_of_ble_eq_true rfl) fun h0 => ?_
  refine MJ_iload_n dX7_isServer_0 rfl rfl ?_
  refine MJ_i2l dX7_isServer_1 ?_
  refine MJ_lconst (v := 0) dX7_isServer_2 (by decide) ?_
  refine MJ_ldc2 dX7_isServer_3 ll_X7_132 ?_
  refine MJ_callS (mm_in _ _ _) dX7_isServer_6 ml_X7_109 mkX7_in rfl rfl (Nat.le_of_ble_eq_true rfl) ⟨Nat.le_of_ble_eq_true rfl, Nat.le_of_ble_eq_true rfl⟩ (fun v6 h6 q6 => ?_)
  obtain ⟨rfl, z6⟩ := q6
  rw [z6]
  exact MJ_zreturn dX7_isServer_9 rfl (by first | exact Or.inl rfl | exact Or.inr rfl | exact bi_01) ⟨by rw [inL_inN 4 (by decide)], rfl⟩
set_option maxRecDepth 100000 in
set_option maxHeartbeats 4000000 in
theorem mm_mayBe {v : Int64} : MM x y 1 kX7_mayBe [.ref y.1, .long v] S (fun z S' => z = some (.int (bi (okV v))) ∧ S' = S) := by
  refine MM.ofJ mkX7_mayBe.1 (Nat.le_of_ble_eq_true rfl) fun h0 => ?_
  refine MJ_lload_n dX7_mayBe_0 rfl rfl ?_
  refine MJ_lconst (v := 0) dX7_mayBe_1 (by decide) ?_
  refine MJ_ldc2 dX7_mayBe_2 ll_X7_173 ?_
  refine MJ_callS (mm_in _ _ _) dX7_mayBe_5 ml_X7_109 mkX7_in rfl rfl (Nat.le_of_ble_eq_true rfl) ⟨Nat.le_of_ble_eq_true rfl, Nat.le_of_ble_eq_true rfl⟩ (fun v5 h5 q5 => ?_)
  obtain ⟨rfl, z5⟩ := q5
  rw [z5]
  exact MJ_zreturn dX7_mayBe_8 rfl (by first | exact Or.inl rfl | exact Or.inr rfl | exact bi_01) ⟨rfl, rfl⟩
set_option maxRecDepth 100000 in
set_option maxHeartbeats 4000000 in
theorem mm_lowest {n : Int32} (h10 : inN n 10 = true) (hn : inN (mI S 453) 301 = true) : MM x y 0 kX7_lowest [.ref y.1, .int n] S (fun z S' => z = some (.int (lowS S n)) ∧ S' = S) := by
  refine MM.ofJ mkX7_lowest.1 (Nat.le_of_ble_eq_true rfl) fun h0 => ?_
  obtain ⟨hn1, hn2, hn3⟩ := inN_tn hn
  have lp : ∀ m k, k ≤ nA S → nA S - k < m → MJ x y h0 0 (fun z S' => z = some (.int (lowS S n)) ∧ S' = S) kX7_lowest 9 [(0, .ref y.1), (1, .int n), (2, .int (lowF S n k)), (3, .int (nI k))] [] S := by
    intro m
    induction m with
    | zero => intro k _ h; omega
    | succ m ih =>
      intro k hk hm
      have hk2 : nA S < 301 := hn2
      refine MJ_iload_n dX7_lowest_9 rfl rfl ?_
      refine MJ_aload_n dX7_lowest_10 rfl rfl isR_r ?_
      refine MJ_getI dX7_lowest_11 g_X7_106 ?_
      rw [show mI S 453 = nI (nA S) from hn1]
      refine MJ_icmp_ge (tgt := 74) dX7_lowest_14 (by decide) (fun c14 => ?_) (fun c14 => ?_)
      · rw [nI_lei (by omega) (by omega)] at c14
        have e : k = nA S := by omega
        refine MJ_iload_n dX7_lowest_74 rfl rfl ?_
        exact MJ_ireturn dX7_lowest_75 rfl ⟨by rw [e]; rfl, rfl⟩
      · rw [nI_lei (by omega) (by omega)] at c14
        refine MJ_aload_n dX7_lowest_17 rfl rfl isR_r ?_
        refine MJ_getA dX7_lowest_18 g_X7_24 (by decide) ?_
        refine MJ_iload_n dX7_lowest_21 rfl rfl ?_
        refine MJ_iald dX7_lowest_22 (by first | assumption | exact inx_v (by assumption) | exact inx_n (show _ < 300 by omega) (by decide)) (by decide) ?_
        refine MJ_iload_n dX7_lowest_23 rfl rfl ?_
        refine MJ_icmp_ne (tgt := 68) dX7_lowest_24 (by decide) (fun c24 => ?_) (fun c24 => ?_)
        · refine MJ_iinc dX7_lowest_68 rfl (nI_inc _) (by decide) ?_
          have e : lowF S n k = lowF S n (k + 1) := by simp [lowF, c24]
          rw [e]
          refine MJ_goto (tgt := 9) dX7_lowest_71 (by decide) ?_
          exact MJ_loc _ rfl (ih (k + 1) (by omega) (by omega))
        · refine MJ_aload_n dX7_lowest_27 rfl rfl isR_r ?_
          refine MJ_getA dX7_lowest_28 g_X7_27 (by decide) ?_
          refine MJ_iload_n dX7_lowest_31 rfl rfl ?_
          refine MJ_iald dX7_lowest_32 (by first | assumption | exact inx_v (by assumption) | exact inx_n (show _ < 300 by omega) (by decide)) (by decide) ?_
          refine MJ_aload_n dX7_lowest_33 rfl rfl isR_r ?_
          refine MJ_getA dX7_lowest_34 g_X7_13 (by decide) ?_
          refine MJ_iload_n dX7_lowest_37 rfl rfl ?_
          refine MJ_iald dX7_lowest_38 (inx_v h10) (by decide) ?_
          refine MJ_pc (pc' := 39) rfl ?_
          refine MJ_icmp_ne (tgt := 68) dX7_lowest_39 (by decide) (fun c39 => ?_) (fun c39 => ?_)
          · refine MJ_iinc dX7_lowest_68 rfl (nI_inc _) (by decide) ?_
            have e : lowF S n k = lowF S n (k + 1) := by simp [lowF, c39]
            rw [e]
            refine MJ_goto (tgt := 9) dX7_lowest_71 (by decide) ?_
            exact MJ_loc _ rfl (ih (k + 1) (by omega) (by omega))
          · refine MJ_aload_n dX7_lowest_42 rfl rfl isR_r ?_
            refine MJ_getA dX7_lowest_43 g_X7_51 (by decide) ?_
            refine MJ_iload_n dX7_lowest_46 rfl rfl ?_
            refine MJ_iald dX7_lowest_47 (by first | assumption | exact inx_v (by assumption) | exact inx_n (show _ < 300 by omega) (by decide)) (by decide) ?_
            refine MJ_if_ne (tgt := 68) dX7_lowest_48 (by decide) (fun c48 => ?_) (fun c48 => ?_)
            · refine MJ_iinc dX7_lowest_68 rfl (nI_inc _) (by decide) ?_
              have e : lowF S n k = lowF S n (k + 1) := by simp [lowF, c48]
              rw [e]
              refine MJ_goto (tgt := 9) dX7_lowest_71 (by decide) ?_
              exact MJ_loc _ rfl (ih (k + 1) (by omega) (by omega))
            · refine MJ_aload_n dX7_lowest_51 rfl rfl isR_r ?_
              refine MJ_getA dX7_lowest_52 g_X7_30 (by decide) ?_
              refine MJ_iload_n dX7_lowest_55 rfl rfl ?_
              refine MJ_iald dX7_lowest_56 (by first | assumption | exact inx_v (by assumption) | exact inx_n (show _ < 300 by omega) (by decide)) (by decide) ?_
              refine MJ_iload_n dX7_lowest_57 rfl rfl ?_
              refine MJ_icmp_ge (tgt := 68) dX7_lowest_58 (by decide) (fun c58 => ?_) (fun c58 => ?_)
              · refine MJ_iinc dX7_lowest_68 rfl (nI_inc _) (by decide) ?_
                have e : lowF S n k = lowF S n (k + 1) := by
                 have : ¬ mT S 456 k < lowF S n k := by rw [n_lt]; rw [n_le] at c58; omega
                 simp [lowF, this]
                rw [e]
                refine MJ_goto (tgt := 9) dX7_lowest_71 (by decide) ?_
                exact MJ_loc _ rfl (ih (k + 1) (by omega) (by omega))
              · refine MJ_aload_n dX7_lowest_61 rfl rfl isR_r ?_
                refine MJ_getA dX7_lowest_62 g_X7_30 (by decide) ?_
                refine MJ_iload_n dX7_lowest_65 rfl rfl ?_
                refine MJ_iald dX7_lowest_66 (by first | assumption | exact inx_v (by assumption) | exact inx_n (show _ < 300 by omega) (by decide)) (by decide) ?_
                refine MJ_istore_n dX7_lowest_67 rfl (by decide) ?_
                refine MJ_iinc dX7_lowest_68 rfl (nI_inc _) (by decide) ?_
                have e : mT S 456 k = lowF S n (k + 1) := by
                 have : mT S 456 k < lowF S n k := by rw [n_lt]; rw [n_le] at c58; omega
                 simp [lowF, this, c24, c39, c48]
                rw [e]
                refine MJ_goto (tgt := 9) dX7_lowest_71 (by decide) ?_
                exact MJ_loc _ rfl (ih (k + 1) (by omega) (by omega))
  refine MJ_aload_n dX7_lowest_0 rfl rfl isR_r ?_
  refine MJ_getA dX7_lowest_1 g_X7_17 (by decide) ?_
  refine MJ_iload_n dX7_lowest_4 rfl rfl ?_
  refine MJ_iald dX7_lowest_5 (inx_v h10) (by decide) ?_
  refine MJ_istore_n dX7_lowest_6 rfl (by decide) ?_
  refine MJ_iconst (v := 0) dX7_lowest_7 (by decide) ?_
  refine MJ_istore_n dX7_lowest_8 rfl (by decide) ?_
  exact MJ_loc _ rfl (lp (nA S + 1) 0 (by omega) (by omega))
set_option maxRecDepth 100000 in
set_option maxHeartbeats 4000000 in
theorem mm_isUsedUp {n : Int32} (h10 : inN n 10 = true) (hn : inN (mI S 453) 301 = true) : MM x y 1 kX7_isUsedUp [.ref y.1, .int n] S (fun z S' => z = some (.int (bi (usedUp S n))) ∧ S' = S) := by
  refine MM.ofJ mkX7_isUsedUp.1 (Nat.le_of_ble_eq_true rfl) fun h0 => ?_
  refine MJ_aload_n dX7_isUsedUp_0 rfl rfl isR_r ?_
  refine MJ_getA dX7_isUsedUp_1 g_X7_17 (by decide) ?_
  refine MJ_iload_n dX7_isUsedUp_4 rfl rfl ?_
  refine MJ_iald dX7_isUsedUp_5 (inx_v h10) (by decide) ?_
  refine MJ_aload_n dX7_isUsedUp_6 rfl rfl isR_r ?_
  refine MJ_iload_n dX7_isUsedUp_7 rfl rfl ?_
  refine MJ_callV (mm_lowest h10 hn) dX7_isUsedUp_8 ml_X7_113 mkX7_lowest rfl rfl rfl (Nat.le_of_ble_eq_true rfl) ⟨Nat.le_of_ble_eq_true rfl, Nat.le_of_ble_eq_true rfl⟩ (fun v8 h8 q8 => ?_)
  obtain ⟨rfl, z8⟩ := q8
  rw [z8]
  refine MJ_aload_n dX7_isUsedUp_11 rfl rfl isR_r ?_
  refine MJ_pc (pc' := 12) rfl ?_
  refine MJ_getI dX7_isUsedUp_12 g_X7_102 ?_
  refine MJ_iadd dX7_isUsedUp_15 ?_
  refine MJ_icmp_lt (tgt := 23) dX7_isUsedUp_16 (by decide) (fun c16 => ?_) (fun c16 => ?_)
  · refine MJ_iconst (v := 0) dX7_isUsedUp_23 (by decide) ?_
    have e : usedUp S n = false := by
     unfold usedUp; rw [decide_eq_false_iff_not]; intro z; rw [n_lt] at c16; rw [n_le] at z; omega
    exact MJ_zreturn dX7_isUsedUp_24 rfl (by first | exact Or.inl rfl | exact Or.inr rfl | exact bi_01) ⟨by rw [e]; rfl, rfl⟩
  · refine MJ_iconst (v := 1) dX7_isUsedUp_19 (by decide) ?_
    refine MJ_goto (tgt := 24) dX7_isUsedUp_20 (by decide) ?_
    have e : usedUp S n = true := by
     unfold usedUp; rw [decide_eq_true_iff]; rw [n_lt] at c16; rw [n_le]; omega
    exact MJ_zreturn dX7_isUsedUp_24 rfl (by first | exact Or.inl rfl | exact Or.inr rfl | exact bi_01) ⟨by rw [e]; rfl, rfl⟩
theorem fnd_none {o num : Int32} (h : ∀ j, j < nR S → ¬ (mT S 477 j = o ∧ mT S 478 j = num)) : fnd S o num = none := by
  unfold fnd
  rw [List.find?_eq_none]
  intro j hj
  simpa using h j (List.mem_range.mp hj)
theorem fnd_some {o num : Int32} {k : Nat} (hk : k < nR S) (h : ∀ j, j < k → ¬ (mT S 477 j = o ∧ mT S 478 j = num)) (h2 : mT S 477 k = o ∧ mT S 478 k = num) : fnd S o num = some k := by
  unfold fnd
  rw [List.find?_range_eq_some]
  exact ⟨by simpa using h2, List.mem_range.mpr hk, fun j hj => by simp only [Bool.not_eq_true', decide_eq_false_iff_not]; exact h j hj⟩
theorem fnd_lt {o num : Int32} {k : Nat} (h : fnd S o num = some k) : k < nR S ∧ mT S 477 k = o ∧ mT S 478 k = num := by
  unfold fnd at h
  rw [List.find?_range_eq_some] at h
  exact ⟨List.mem_range.mp h.2.1, by simpa using h.1⟩
set_option maxRecDepth 100000 in
set_option maxHeartbeats 4000000 in
theorem mm_findRecord {o num : Int32} (hn : inN (mI S 476) 701 = true) : MM x y 0 kX7_findRecord [.ref y.1, .int o, .int num] S (fun z S' => z = some (.int (oI (fnd S o num))) ∧ S' = S) := by
  refine MM.ofJ mkX7_findRecord.1 (Nat.le_of_ble_eq_true rfl) fun h0 => ?_
  obtain ⟨hn1, hn2, hn3⟩ := inN_tn hn
  have lp : ∀ m k, k ≤ nR S → (∀ j, j < k → ¬ (mT S 477 j = o ∧ mT S 478 j = num)) → nR S - k < m → MJ x y h0 0 (fun z S' => z = some (.int (oI (fnd S o num))) ∧ S' = S) kX7_findRecord 2 [(0, .ref y.1), (1, .int o), (2, .int num), (3, .int (nI k))] [] S := by
    intro m
    induction m with
    | zero => intro k _ _ h; omega
    | succ m ih =>
      intro k hk hj hm
      have hk2 : nR S < 701 := hn2
      have nx : ¬ (mT S 477 k = o ∧ mT S 478 k = num) → ∀ j, j < k + 1 → ¬ (mT S 477 j = o ∧ mT S 478 j = num) := fun z j hj2 => by
        rcases Nat.lt_succ_iff_lt_or_eq.mp hj2 with h | rfl
        · exact hj j h
        · exact z
      refine MJ_iload_n dX7_findRecord_2 rfl rfl ?_
      refine MJ_aload_n dX7_findRecord_3 rfl rfl isR_r ?_
      refine MJ_getI dX7_findRecord_4 g_X7_166 ?_
      rw [show mI S 476 = nI (nR S) from hn1]
      refine MJ_icmp_ge (tgt := 38) dX7_findRecord_7 (by decide) (fun c7 => ?_) (fun c7 => ?_)
      · rw [nI_lei (by omega) (by omega)] at c7
        have e : k = nR S := by omega
        refine MJ_iconst (v := -1) dX7_findRecord_38 (by decide) ?_
        exact MJ_ireturn dX7_findRecord_39 rfl ⟨by rw [fnd_none (fun j hj2 => hj j (by omega))]; rfl, rfl⟩
      · rw [nI_lei (by omega) (by omega)] at c7
        refine MJ_aload_n dX7_findRecord_10 rfl rfl isR_r ?_
        refine MJ_getA dX7_findRecord_11 g_X7_87 (by decide) ?_
        refine MJ_iload_n dX7_findRecord_14 rfl rfl ?_
        refine MJ_iald dX7_findRecord_15 (by first | assumption | exact inx_v (by assumption) | exact inx_n (show _ < 700 by omega) (by decide)) (by decide) ?_
        refine MJ_iload_n dX7_findRecord_16 rfl rfl ?_
        refine MJ_icmp_ne (tgt := 32) dX7_findRecord_17 (by decide) (fun c17 => ?_) (fun c17 => ?_)
        · refine MJ_iinc dX7_findRecord_32 rfl (nI_inc _) (by decide) ?_
          refine MJ_goto (tgt := 2) dX7_findRecord_35 (by decide) ?_
          exact MJ_loc _ rfl (ih (k + 1) (by omega) (nx (fun z => c17 z.1)) (by omega))
        · refine MJ_aload_n dX7_findRecord_20 rfl rfl isR_r ?_
          refine MJ_getA dX7_findRecord_21 g_X7_90 (by decide) ?_
          refine MJ_iload_n dX7_findRecord_24 rfl rfl ?_
          refine MJ_iald dX7_findRecord_25 (by first | assumption | exact inx_v (by assumption) | exact inx_n (show _ < 700 by omega) (by decide)) (by decide) ?_
          refine MJ_iload_n dX7_findRecord_26 rfl rfl ?_
          refine MJ_icmp_ne (tgt := 32) dX7_findRecord_27 (by decide) (fun c27 => ?_) (fun c27 => ?_)
          · refine MJ_iinc dX7_findRecord_32 rfl (nI_inc _) (by decide) ?_
            refine MJ_goto (tgt := 2) dX7_findRecord_35 (by decide) ?_
            exact MJ_loc _ rfl (ih (k + 1) (by omega) (nx (fun z => c27 z.2)) (by omega))
          · refine MJ_iload_n dX7_findRecord_30 rfl rfl ?_
            exact MJ_ireturn dX7_findRecord_31 rfl ⟨by rw [fnd_some (by omega) hj ⟨c17, c27⟩]; rfl, rfl⟩
  refine MJ_iconst (v := 0) dX7_findRecord_0 (by decide) ?_
  refine MJ_istore_n dX7_findRecord_1 rfl (by decide) ?_
  exact MJ_loc _ rfl (lp (nR S + 1) 0 (by omega) (fun j hj => by omega) (by omega))
end M1
end
section
/-! what the reference's own rows of numbers keep: indexes lie within -/
def WF1 (S : Ms) : Prop :=
  (inN (mI S 453) 301 = true ∧ inN (mI S 468) 121 = true ∧ inN (mI S 476) 701 = true) ∧
  (∀ k, k < nA S → inN (mT S 454 k) 10 = true ∧ inN (mT S 457 k) 4 = true ∧ inN (mT S 459 k) 6 = true ∧ inN (mT S 460 k) 6 = true ∧ inN (mT S 461 k) 4 = true) ∧
  (∀ i, i < nL S → inN (mT S 469 i) (nA S) = true) ∧
  (∀ i, (mT S 470 i = 0 ∨ mT S 470 i = 1) ∧ (mT S 473 i = 0 ∨ mT S 473 i = 1)) ∧
  (∀ r, r < nR S → mT S 479 r = 2 → inN (mT S 481 r) (nA S) = true) ∧
  (∀ k, k < nA S → 5 < mT S 454 k → inN (mT S 465 k) (nA S) = true)
/-- the fields that WF1 speaks of -/
def wfT : List Nat := [454, 457, 459, 460, 461, 465, 469, 470, 473, 479, 481]
theorem WF1_congr {S S' : Ms} (hI : ∀ f ∈ [453, 468, 476], mI S' f = mI S f) (hT : ∀ f ∈ wfT, mT S' f = mT S f) (h : WF1 S) : WF1 S' := by
  have a1 : nA S' = nA S := congrArg tn (hI 453 (by decide))
  have a2 : nL S' = nL S := congrArg tn (hI 468 (by decide))
  have a3 : nR S' = nR S := congrArg tn (hI 476 (by decide))
  unfold WF1
  rw [a1, a2, a3, hI 453 (by decide), hI 468 (by decide), hI 476 (by decide), hT 454 (by decide), hT 457 (by decide), hT 459 (by decide), hT 460 (by decide), hT 461 (by decide), hT 465 (by decide), hT 469 (by decide), hT 470 (by decide), hT 473 (by decide), hT 479 (by decide), hT 481 (by decide)]
  exact h
theorem mT_pT_ne (S : Ms) {f g : Nat} (j : Nat) (v : Int32) (h : g ≠ f) : mT (pT S f j v) g = mT S g := by
  funext i
  rw [mT_pT, if_neg (fun z => h z.1)]
theorem mJ_pJ_ne (S : Ms) {f g : Nat} (j : Nat) (v : Int64) (h : g ≠ f) : mJ (pJ S f j v) g = mJ S g := by
  funext i
  rw [mJ_pJ, if_neg (fun z => h z.1)]
theorem mI_pI_ne (S : Ms) {f g : Nat} (v : Int32) (h : g ≠ f) : mI (pI S f v) g = mI S g := by
  rw [mI_pI, if_neg h]
theorem WF1_pI {S : Ms} {f : Nat} {v : Int32} (hf : f ∉ [453, 468, 476]) (h : WF1 S) : WF1 (pI S f v) := WF1_congr (S := S) (S' := pI S f v) (fun g hg => mI_pI_ne S v (fun z => hf (z ▸ hg))) (fun _ _ => rfl) h
theorem WF1_pT {S : Ms} {f j : Nat} {v : Int32} (hf : f ∉ wfT) (h : WF1 S) : WF1 (pT S f j v) := WF1_congr (S := S) (S' := pT S f j v) (fun g hg => rfl) (fun g hg => mT_pT_ne S j v (fun z => hf (z ▸ hg))) h
theorem WF1_pJ {S : Ms} {f j : Nat} {v : Int64} (h : WF1 S) : WF1 (pJ S f j v) := WF1_congr (S := S) (S' := pJ S f j v) (fun g hg => rfl) (fun g hg => rfl) h
theorem lowF_congr {S S' : Ms} (h : ∀ f ∈ [450, 451, 454, 455, 456, 463], mT S' f = mT S f) (n : Int32) : ∀ k, lowF S' n k = lowF S n k
  | 0 => by simp only [lowF]; rw [h 451 (by decide)]
  | k + 1 => by
    simp only [lowF]
    rw [lowF_congr h n k, h 454 (by decide), h 455 (by decide), h 450 (by decide), h 463 (by decide), h 456 (by decide)]
theorem lowS_congr {S S' : Ms} (h : ∀ f ∈ [450, 451, 454, 455, 456, 463], mT S' f = mT S f) (hA : mI S' 453 = mI S 453) (n : Int32) : lowS S' n = lowS S n := by
  unfold lowS nA
  rw [hA]
  exact lowF_congr h n _
theorem fnd_congr {S S' : Ms} (h : ∀ f ∈ [477, 478], mT S' f = mT S f) (hA : mI S' 476 = mI S 476) (o num : Int32) : fnd S' o num = fnd S o num := by
  unfold fnd nR
  rw [hA, h 477 (by decide), h 478 (by decide)]
theorem lowS_pI {S : Ms} {f : Nat} {v : Int32} {n : Int32} (hf : f ≠ 453) : lowS (pI S f v) n = lowS S n := lowS_congr (S := S) (S' := pI S f v) (fun _ _ => rfl) (mI_pI_ne S v (Ne.symm hf)) n
theorem lowS_pT {S : Ms} {f j : Nat} {v : Int32} {n : Int32} (hf : f ∉ [450, 451, 454, 455, 456, 463]) : lowS (pT S f j v) n = lowS S n := lowS_congr (S := S) (S' := pT S f j v) (fun g hg => mT_pT_ne S j v (fun z => hf (z ▸ hg))) rfl n
theorem lowS_pJ {S : Ms} {f j : Nat} {v : Int64} {n : Int32} : lowS (pJ S f j v) n = lowS S n := lowS_congr (S := S) (S' := pJ S f j v) (fun _ _ => rfl) rfl n
theorem fnd_pI {S : Ms} {f : Nat} {v : Int32} {o n : Int32} (hf : f ≠ 476) : fnd (pI S f v) o n = fnd S o n := fnd_congr (S := S) (S' := pI S f v) (fun _ _ => rfl) (mI_pI_ne S v (Ne.symm hf)) o n
theorem fnd_pT {S : Ms} {f j : Nat} {v : Int32} {o n : Int32} (hf : f ∉ [477, 478]) : fnd (pT S f j v) o n = fnd S o n := fnd_congr (S := S) (S' := pT S f j v) (fun g hg => mT_pT_ne S j v (fun z => hf (z ▸ hg))) rfl o n
theorem fnd_pJ {S : Ms} {f j : Nat} {v : Int64} {o n : Int32} : fnd (pJ S f j v) o n = fnd S o n := fnd_congr (S := S) (S' := pJ S f j v) (fun _ _ => rfl) rfl o n
theorem WF1.ask {S : Ms} (h : WF1 S) {a : Int32} (ha : inN a (nA S) = true) : inN (mT S 454 (tn a)) 10 = true ∧ inN (mT S 457 (tn a)) 4 = true ∧ inN (mT S 459 (tn a)) 6 = true ∧ inN (mT S 460 (tn a)) 6 = true ∧ inN (mT S 461 (tn a)) 4 = true := h.2.1 _ (inN_tn ha).2.1
theorem inN_le {v : Int32} {n m : Nat} (h : inN v n = true) (hm : n ≤ m) : inN v m = true := by
  unfold inN at h ⊢
  rw [decide_eq_true_iff] at h ⊢
  omega
theorem inN_lin {a b : Int32} {n m c : Nat} (ha : inN a n = true) (hb : inN b m = true) (hc : c * n + m ≤ 2147483648) : nI c * a + b = nI (c * tn a + tn b) ∧ c * tn a + tn b < c * (n - 1) + m ∧ inN (nI c * a + b) (c * (n - 1) + m) = true := by
  obtain ⟨h1, h2, h3⟩ := inN_tn ha
  obtain ⟨h4, h5, h6⟩ := inN_tn hb
  have e : nI c * a + b = nI (c * tn a + tn b) := by
    conv => lhs; rw [h1, h4]
    rw [nI_mul, zI_add]
  have h7 : c * tn a ≤ c * (n - 1) := Nat.mul_le_mul_left _ (by omega)
  have h8 : c * (n - 1) ≤ c * n := Nat.mul_le_mul_left _ (by omega)
  refine ⟨e, by omega, ?_⟩
  rw [e, inN_nI (by omega), decide_eq_true_iff]
  omega
/-- the row of a server's and a name's records; the row of an account -/
theorem inN_of {sv n : Int32} (h1 : inN sv 4 = true) (h2 : inN n 10 = true) : inN (10 * sv + n) 40 = true := (inN_lin (c := 10) h1 h2 (by decide)).2.2
theorem inN_ac {sv a : Int32} (h1 : inN sv 4 = true) (h2 : inN a 6 = true) : inN (6 * sv + a) 24 = true := (inN_lin (c := 6) h1 h2 (by decide)).2.2
theorem inN_sv {sv : Int32} (h1 : inN sv 4 = true) : inN (6 + sv) 10 = true := by
  obtain ⟨h2, h3, h4⟩ := inN_tn h1
  have e : 6 + sv = nI (6 + tn sv) := by
    conv => lhs; rw [h2]
    rw [show (6 : Int32) = nI 6 from rfl, zI_add]
  rw [e, inN_nI (by omega), decide_eq_true_iff]
  omega
end
section
section M2
variable {x : om_x} {y : om_y} {S : Ms}
set_option maxRecDepth 100000 in
set_option maxHeartbeats 4000000 in
theorem mm_send {ask : Int32} {ans : Bool} {v : Int64} (hW : WF1 S) (ha : inN ask (nA S) = true) : MM x y 1 kX7_send [.ref y.1, .int ask, .int (bi ans), .long v] S (fun z S' => z = none ∧ S' = sendF S ask ans v) := by
  refine MM.ofJ mkX7_send.1 (Nat.le_of_ble_eq_true rfl) fun h0 => ?_
  have hnm := (hW.ask ha).1
  have ha3 := inN_le ha (Nat.le_of_lt_succ (inN_tn hW.1.1).2.1)
  have hl : inN (mI S 468) 121 = true := hW.1.2.1
  refine MJ_aload_n dX7_send_0 rfl rfl isR_r ?_
  refine MJ_getI dX7_send_1 g_X7_117 ?_
  refine MJ_if_eq (tgt := 8) dX7_send_4 (by decide) (fun c4 => ?_) (fun c4 => ?_)
  · refine MJ_aload_n dX7_send_8 rfl rfl isR_r ?_
    refine MJ_dup dX7_send_9 rfl ?_
    refine MJ_getI dX7_send_10 g_X7_121 ?_
    refine MJ_iconst (v := 1) dX7_send_13 (by decide) ?_
    refine MJ_iadd dX7_send_14 ?_
    refine MJ_putI dX7_send_15 p_X7_121 ?_
    refine MJ_aload_n dX7_send_18 rfl rfl isR_r ?_
    refine MJ_getI dX7_send_19 g_X7_124 ?_
    refine MJ_pc (pc' := 22) rfl ?_
    refine MJ_bipush (v := 120) dX7_send_22 (by decide) ?_
    refine MJ_icmp_ne (tgt := 38) dX7_send_24 (by decide) (fun c24 => ?_) (fun c24 => ?_)
    · have c24 : ¬ mI S 468 = 120 := c24
      refine MJ_aload_n dX7_send_38 rfl rfl isR_r ?_
      refine MJ_getA dX7_send_39 g_X7_66 (by decide) ?_
      refine MJ_aload_n dX7_send_42 rfl rfl isR_r ?_
      refine MJ_getI dX7_send_43 g_X7_124 ?_
      refine MJ_iload_n dX7_send_46 rfl rfl ?_
      refine MJ_iast dX7_send_47 (inx_v hl) (by decide) ?_
      refine MJ_aload_n dX7_send_48 rfl rfl isR_r ?_
      refine MJ_getA dX7_send_49 g_X7_69 (by decide) ?_
      refine MJ_pc (pc' := 52) rfl ?_
      refine MJ_aload_n dX7_send_52 rfl rfl isR_r ?_
      refine MJ_getI dX7_send_53 g_X7_124 ?_
      refine MJ_iload_n dX7_send_56 rfl rfl ?_
      refine MJ_zast dX7_send_57 (inx_v hl) bi_01 (by decide) ?_
      refine MJ_aload_n dX7_send_58 rfl rfl isR_r ?_
      refine MJ_getA dX7_send_59 g_X7_72 (by decide) ?_
      refine MJ_aload_n dX7_send_62 rfl rfl isR_r ?_
      refine MJ_getI dX7_send_63 g_X7_124 ?_
      refine MJ_pc (pc' := 66) rfl ?_
      refine MJ_iload_n dX7_send_66 rfl rfl ?_
      refine MJ_if_eq (tgt := 74) dX7_send_67 (by decide) (fun c67 => ?_) (fun c67 => ?_)
      · refine MJ_aload_n dX7_send_74 rfl rfl isR_r ?_
        refine MJ_aload_n dX7_send_75 rfl rfl isR_r ?_
        refine MJ_getA dX7_send_76 g_X7_24 (by decide) ?_
        refine MJ_iload_n dX7_send_79 rfl rfl ?_
        refine MJ_iald dX7_send_80 (inx_v ha3) (by decide) ?_
        refine MJ_callV (mm_lowest hnm hW.1.1) dX7_send_81 ml_X7_113 mkX7_lowest rfl rfl rfl (Nat.le_of_ble_eq_true rfl) ⟨Nat.le_of_ble_eq_true rfl, Nat.le_of_ble_eq_true rfl⟩ (fun v81 h81 q81 => ?_)
        obtain ⟨rfl, z81⟩ := q81
        rw [z81]
        rw [lowS_pT (by decide), lowS_pT (by decide), lowS_pI (by decide)]
        refine MJ_iast dX7_send_84 (inx_v hl) (by decide) ?_
        refine MJ_aload_n dX7_send_85 rfl rfl isR_r ?_
        refine MJ_pc (pc' := 86) rfl ?_
        refine MJ_getA dX7_send_86 g_X7_75 (by decide) ?_
        refine MJ_aload_n dX7_send_89 rfl rfl isR_r ?_
        refine MJ_getI dX7_send_90 g_X7_124 ?_
        refine MJ_lload_n dX7_send_93 rfl rfl ?_
        refine MJ_last dX7_send_94 (inx_v hl) (by decide) ?_
        refine MJ_aload_n dX7_send_95 rfl rfl isR_r ?_
        refine MJ_getA dX7_send_96 g_X7_78 (by decide) ?_
        refine MJ_aload_n dX7_send_99 rfl rfl isR_r ?_
        refine MJ_pc (pc' := 100) rfl ?_
        refine MJ_getI dX7_send_100 g_X7_124 ?_
        refine MJ_iconst (v := 0) dX7_send_103 (by decide) ?_
        refine MJ_zast dX7_send_104 (inx_v hl) (by first | exact Or.inl rfl | exact Or.inr rfl) (by decide) ?_
        refine MJ_aload_n dX7_send_105 rfl rfl isR_r ?_
        refine MJ_dup dX7_send_106 rfl ?_
        refine MJ_getI dX7_send_107 g_X7_124 ?_
        refine MJ_iconst (v := 1) dX7_send_110 (by decide) ?_
        refine MJ_iadd dX7_send_111 ?_
        refine MJ_pc (pc' := 112) rfl ?_
        refine MJ_putI dX7_send_112 p_X7_124 ?_
        have e : ans = false := bi_0.mp c67
        subst e
        exact MJ_return dX7_send_115 rfl ⟨rfl, by unfold sendF; rw [if_neg (by simpa using c4), if_neg c24]; rfl⟩
      · refine MJ_iconst (v := -1) dX7_send_70 (by decide) ?_
        refine MJ_goto (tgt := 84) dX7_send_71 (by decide) ?_
        refine MJ_iast dX7_send_84 (inx_v hl) (by decide) ?_
        refine MJ_aload_n dX7_send_85 rfl rfl isR_r ?_
        refine MJ_getA dX7_send_86 g_X7_75 (by decide) ?_
        refine MJ_aload_n dX7_send_89 rfl rfl isR_r ?_
        refine MJ_getI dX7_send_90 g_X7_124 ?_
        refine MJ_lload_n dX7_send_93 rfl rfl ?_
        refine MJ_last dX7_send_94 (inx_v hl) (by decide) ?_
        refine MJ_pc (pc' := 95) rfl ?_
        refine MJ_aload_n dX7_send_95 rfl rfl isR_r ?_
        refine MJ_getA dX7_send_96 g_X7_78 (by decide) ?_
        refine MJ_aload_n dX7_send_99 rfl rfl isR_r ?_
        refine MJ_getI dX7_send_100 g_X7_124 ?_
        refine MJ_iconst (v := 0) dX7_send_103 (by decide) ?_
        refine MJ_zast dX7_send_104 (inx_v hl) (by first | exact Or.inl rfl | exact Or.inr rfl) (by decide) ?_
        refine MJ_aload_n dX7_send_105 rfl rfl isR_r ?_
        refine MJ_dup dX7_send_106 rfl ?_
        refine MJ_pc (pc' := 107) rfl ?_
        refine MJ_getI dX7_send_107 g_X7_124 ?_
        refine MJ_iconst (v := 1) dX7_send_110 (by decide) ?_
        refine MJ_iadd dX7_send_111 ?_
        refine MJ_putI dX7_send_112 p_X7_124 ?_
        have e : ans = true := bi_1.mp c67
        subst e
        exact MJ_return dX7_send_115 rfl ⟨rfl, by unfold sendF; rw [if_neg (by simpa using c4), if_neg c24]; rfl⟩
    · refine MJ_aload_n dX7_send_27 rfl rfl isR_r ?_
      refine MJ_dup dX7_send_28 rfl ?_
      refine MJ_getI dX7_send_29 g_X7_127 ?_
      refine MJ_iconst (v := 1) dX7_send_32 (by decide) ?_
      refine MJ_iadd dX7_send_33 ?_
      refine MJ_putI dX7_send_34 p_X7_127 ?_
      exact MJ_return dX7_send_37 rfl ⟨rfl, by unfold sendF; rw [if_neg (by simpa using c4)]; have c24 : mI S 468 = 120 := c24; rw [if_pos c24]; rfl⟩
  · exact MJ_return dX7_send_7 rfl ⟨rfl, by unfold sendF; rw [if_pos c4]⟩
set_option maxRecDepth 100000 in
set_option maxHeartbeats 4000000 in
theorem mm_newAsk {n sv kind a b t amt far : Int32} (hW : WF1 S) (hn : inN n 10 = true) (hr : nA S < 300) : MM x y 0 kX7_newAsk [.ref y.1, .int n, .int sv, .int kind, .int a, .int b, .int t, .int amt, .int far] S (fun z S' => z = some (.int (mI S 453)) ∧ S' = newAskF S n sv kind a b t amt far) := by
  refine MM.ofJ mkX7_newAsk.1 (Nat.le_of_ble_eq_true rfl) fun h0 => ?_
  have ha : inN (mI S 453) 300 = true := by
    have h1 := inN_tn hW.1.1
    rw [h1.1, inN_nI h1.2.2, decide_eq_true_iff]
    exact hr
  refine MJ_aload_n dX7_newAsk_0 rfl rfl isR_r ?_
  refine MJ_getI dX7_newAsk_1 g_X7_106 ?_
  refine MJ_istore dX7_newAsk_4 (by decide) ?_
  refine MJ_aload_n dX7_newAsk_6 rfl rfl isR_r ?_
  refine MJ_dup dX7_newAsk_7 rfl ?_
  refine MJ_getI dX7_newAsk_8 g_X7_106 ?_
  refine MJ_iconst (v := 1) dX7_newAsk_11 (by decide) ?_
  refine MJ_iadd dX7_newAsk_12 ?_
  refine MJ_pc (pc' := 13) rfl ?_
  refine MJ_putI dX7_newAsk_13 p_X7_106 ?_
  refine MJ_aload_n dX7_newAsk_16 rfl rfl isR_r ?_
  refine MJ_getA dX7_newAsk_17 g_X7_24 (by decide) ?_
  refine MJ_iload dX7_newAsk_20 rfl ?_
  refine MJ_iload_n dX7_newAsk_22 rfl rfl ?_
  refine MJ_iast dX7_newAsk_23 (inx_v ha) (by decide) ?_
  refine MJ_aload_n dX7_newAsk_24 rfl rfl isR_r ?_
  refine MJ_getA dX7_newAsk_25 g_X7_27 (by decide) ?_
  refine MJ_pc (pc' := 28) rfl ?_
  refine MJ_iload dX7_newAsk_28 rfl ?_
  refine MJ_aload_n dX7_newAsk_30 rfl rfl isR_r ?_
  refine MJ_getA dX7_newAsk_31 g_X7_13 (by decide) ?_
  refine MJ_iload_n dX7_newAsk_34 rfl rfl ?_
  refine MJ_iald dX7_newAsk_35 (inx_v hn) (by decide) ?_
  refine MJ_iast dX7_newAsk_36 (inx_v ha) (by decide) ?_
  refine MJ_aload_n dX7_newAsk_37 rfl rfl isR_r ?_
  refine MJ_getA dX7_newAsk_38 g_X7_30 (by decide) ?_
  refine MJ_pc (pc' := 41) rfl ?_
  refine MJ_iload dX7_newAsk_41 rfl ?_
  refine MJ_aload_n dX7_newAsk_43 rfl rfl isR_r ?_
  refine MJ_getA dX7_newAsk_44 g_X7_17 (by decide) ?_
  refine MJ_iload_n dX7_newAsk_47 rfl rfl ?_
  refine MJ_iald dX7_newAsk_48 (inx_v hn) (by decide) ?_
  refine MJ_iast dX7_newAsk_49 (inx_v ha) (by decide) ?_
  refine MJ_aload_n dX7_newAsk_50 rfl rfl isR_r ?_
  refine MJ_getA dX7_newAsk_51 g_X7_17 (by decide) ?_
  refine MJ_pc (pc' := 54) rfl ?_
  refine MJ_iload_n dX7_newAsk_54 rfl rfl ?_
  refine MJ_dup2 dX7_newAsk_55 rfl rfl ?_
  refine MJ_iald dX7_newAsk_56 (inx_v hn) (by decide) ?_
  refine MJ_iconst (v := 1) dX7_newAsk_57 (by decide) ?_
  refine MJ_iadd dX7_newAsk_58 ?_
  refine MJ_iast dX7_newAsk_59 (inx_v hn) (by decide) ?_
  refine MJ_aload_n dX7_newAsk_60 rfl rfl isR_r ?_
  refine MJ_getA dX7_newAsk_61 g_X7_33 (by decide) ?_
  refine MJ_pc (pc' := 64) rfl ?_
  refine MJ_iload dX7_newAsk_64 rfl ?_
  refine MJ_iload_n dX7_newAsk_66 rfl rfl ?_
  refine MJ_iast dX7_newAsk_67 (inx_v ha) (by decide) ?_
  refine MJ_aload_n dX7_newAsk_68 rfl rfl isR_r ?_
  refine MJ_getA dX7_newAsk_69 g_X7_36 (by decide) ?_
  refine MJ_iload dX7_newAsk_72 rfl ?_
  refine MJ_iload_n dX7_newAsk_74 rfl rfl ?_
  refine MJ_iast dX7_newAsk_75 (inx_v ha) (by decide) ?_
  refine MJ_pc (pc' := 76) rfl ?_
  refine MJ_aload_n dX7_newAsk_76 rfl rfl isR_r ?_
  refine MJ_getA dX7_newAsk_77 g_X7_39 (by decide) ?_
  refine MJ_iload dX7_newAsk_80 rfl ?_
  refine MJ_iload dX7_newAsk_82 rfl ?_
  refine MJ_iast dX7_newAsk_84 (inx_v ha) (by decide) ?_
  refine MJ_aload_n dX7_newAsk_85 rfl rfl isR_r ?_
  refine MJ_getA dX7_newAsk_86 g_X7_42 (by decide) ?_
  refine MJ_iload dX7_newAsk_89 rfl ?_
  refine MJ_pc (pc' := 91) rfl ?_
  refine MJ_iload dX7_newAsk_91 rfl ?_
  refine MJ_iast dX7_newAsk_93 (inx_v ha) (by decide) ?_
  refine MJ_aload_n dX7_newAsk_94 rfl rfl isR_r ?_
  refine MJ_getA dX7_newAsk_95 g_X7_45 (by decide) ?_
  refine MJ_iload dX7_newAsk_98 rfl ?_
  refine MJ_iload dX7_newAsk_100 rfl ?_
  refine MJ_iast dX7_newAsk_102 (inx_v ha) (by decide) ?_
  refine MJ_aload_n dX7_newAsk_103 rfl rfl isR_r ?_
  refine MJ_pc (pc' := 104) rfl ?_
  refine MJ_getA dX7_newAsk_104 g_X7_48 (by decide) ?_
  refine MJ_iload dX7_newAsk_107 rfl ?_
  refine MJ_iload dX7_newAsk_109 rfl ?_
  refine MJ_iast dX7_newAsk_111 (inx_v ha) (by decide) ?_
  refine MJ_aload_n dX7_newAsk_112 rfl rfl isR_r ?_
  refine MJ_getA dX7_newAsk_113 g_X7_51 (by decide) ?_
  refine MJ_iload dX7_newAsk_116 rfl ?_
  refine MJ_iconst (v := 0) dX7_newAsk_118 (by decide) ?_
  refine MJ_pc (pc' := 119) rfl ?_
  refine MJ_iast dX7_newAsk_119 (inx_v ha) (by decide) ?_
  refine MJ_aload_n dX7_newAsk_120 rfl rfl isR_r ?_
  refine MJ_getA dX7_newAsk_121 g_X7_57 (by decide) ?_
  refine MJ_iload dX7_newAsk_124 rfl ?_
  refine MJ_iload dX7_newAsk_126 rfl ?_
  refine MJ_iast dX7_newAsk_128 (inx_v ha) (by decide) ?_
  refine MJ_aload_n dX7_newAsk_129 rfl rfl isR_r ?_
  refine MJ_getA dX7_newAsk_130 g_X7_60 (by decide) ?_
  refine MJ_pc (pc' := 133) rfl ?_
  refine MJ_iload dX7_newAsk_133 rfl ?_
  refine MJ_iconst (v := -1) dX7_newAsk_135 (by decide) ?_
  refine MJ_iast dX7_newAsk_136 (inx_v ha) (by decide) ?_
  refine MJ_iload dX7_newAsk_137 rfl ?_
  exact MJ_ireturn dX7_newAsk_139 rfl ⟨rfl, rfl⟩
theorem fnd_bound {o num : Int32} {k : Nat} (hW : WF1 S) (h : fnd S o num = some k) : k < 700 := by
  have h1 := (fnd_lt h).1
  have h2 := (inN_tn hW.1.2.2).2.1
  unfold nR at h1
  omega
set_option maxRecDepth 100000 in
set_option maxHeartbeats 4000000 in
theorem mm_putRecord {o num st own : Int32} {v : Int64} (hW : WF1 S) (hr : nR S < 700) : MM x y 1 kX7_putRecord [.ref y.1, .int o, .int num, .int st, .long v, .int own] S (fun z S' => z = none ∧ S' = putRecF S o num st v own) := by
  refine MM.ofJ mkX7_putRecord.1 (Nat.le_of_ble_eq_true rfl) fun h0 => ?_
  have hR : inN (mI S 476) 700 = true := by
    have h1 := inN_tn hW.1.2.2
    rw [h1.1, inN_nI h1.2.2, decide_eq_true_iff]
    exact hr
  cases hf : fnd S o num with
  | none =>
    refine MJ_aload_n dX7_putRecord_0 rfl rfl isR_r ?_
    refine MJ_iload_n dX7_putRecord_1 rfl rfl ?_
    refine MJ_iload_n dX7_putRecord_2 rfl rfl ?_
    refine MJ_callV (mm_findRecord hW.1.2.2) dX7_putRecord_3 ml_X7_169 mkX7_findRecord rfl rfl rfl (Nat.le_of_ble_eq_true rfl) ⟨Nat.le_of_ble_eq_true rfl, Nat.le_of_ble_eq_true rfl⟩ (fun v3 h3 q3 => ?_)
    obtain ⟨rfl, z3⟩ := q3
    rw [z3]
    refine MJ_istore dX7_putRecord_6 (by decide) ?_
    refine MJ_iload dX7_putRecord_8 rfl ?_
    refine MJ_if_ge (tgt := 29) dX7_putRecord_10 (by decide) (fun c10 => ((show False by rw [hf] at c10; exact absurd c10 (by decide))).elim) (fun c10 => ?_)
    refine MJ_aload_n dX7_putRecord_13 rfl rfl isR_r ?_
    refine MJ_getI dX7_putRecord_14 g_X7_166 ?_
    refine MJ_pc (pc' := 17) rfl ?_
    refine MJ_istore dX7_putRecord_17 (by decide) ?_
    refine MJ_aload_n dX7_putRecord_19 rfl rfl isR_r ?_
    refine MJ_dup dX7_putRecord_20 rfl ?_
    refine MJ_getI dX7_putRecord_21 g_X7_166 ?_
    refine MJ_iconst (v := 1) dX7_putRecord_24 (by decide) ?_
    refine MJ_iadd dX7_putRecord_25 ?_
    refine MJ_putI dX7_putRecord_26 p_X7_166 ?_
    refine MJ_aload_n dX7_putRecord_29 rfl rfl isR_r ?_
    refine MJ_pc (pc' := 30) rfl ?_
    refine MJ_getA dX7_putRecord_30 g_X7_87 (by decide) ?_
    refine MJ_iload dX7_putRecord_33 rfl ?_
    refine MJ_iload_n dX7_putRecord_35 rfl rfl ?_
    refine MJ_iast dX7_putRecord_36 (inx_v hR) (by decide) ?_
    refine MJ_aload_n dX7_putRecord_37 rfl rfl isR_r ?_
    refine MJ_getA dX7_putRecord_38 g_X7_90 (by decide) ?_
    refine MJ_iload dX7_putRecord_41 rfl ?_
    refine MJ_iload_n dX7_putRecord_43 rfl rfl ?_
    refine MJ_pc (pc' := 44) rfl ?_
    refine MJ_iast dX7_putRecord_44 (inx_v hR) (by decide) ?_
    refine MJ_aload_n dX7_putRecord_45 rfl rfl isR_r ?_
    refine MJ_getA dX7_putRecord_46 g_X7_93 (by decide) ?_
    refine MJ_iload dX7_putRecord_49 rfl ?_
    refine MJ_iload_n dX7_putRecord_51 rfl rfl ?_
    refine MJ_iast dX7_putRecord_52 (inx_v hR) (by decide) ?_
    refine MJ_aload_n dX7_putRecord_53 rfl rfl isR_r ?_
    refine MJ_getA dX7_putRecord_54 g_X7_96 (by decide) ?_
    refine MJ_pc (pc' := 57) rfl ?_
    refine MJ_iload dX7_putRecord_57 rfl ?_
    refine MJ_lload dX7_putRecord_59 rfl ?_
    refine MJ_last dX7_putRecord_61 (inx_v hR) (by decide) ?_
    refine MJ_aload_n dX7_putRecord_62 rfl rfl isR_r ?_
    refine MJ_getA dX7_putRecord_63 g_X7_99 (by decide) ?_
    refine MJ_iload dX7_putRecord_66 rfl ?_
    refine MJ_iload dX7_putRecord_68 rfl ?_
    refine MJ_iast dX7_putRecord_70 (inx_v hR) (by decide) ?_
    refine MJ_pc (pc' := 71) rfl ?_
    exact MJ_return dX7_putRecord_71 rfl ⟨rfl, by unfold putRecF; rw [hf]; rfl⟩
  | some k =>
    have hk := fnd_bound hW hf
    refine MJ_aload_n dX7_putRecord_0 rfl rfl isR_r ?_
    refine MJ_iload_n dX7_putRecord_1 rfl rfl ?_
    refine MJ_iload_n dX7_putRecord_2 rfl rfl ?_
    refine MJ_callV (mm_findRecord hW.1.2.2) dX7_putRecord_3 ml_X7_169 mkX7_findRecord rfl rfl rfl (Nat.le_of_ble_eq_true rfl) ⟨Nat.le_of_ble_eq_true rfl, Nat.le_of_ble_eq_true rfl⟩ (fun v3 h3 q3 => ?_)
    obtain ⟨rfl, z3⟩ := q3
    rw [z3]
    rw [hf]
    refine MJ_istore dX7_putRecord_6 (by decide) ?_
    refine MJ_iload dX7_putRecord_8 rfl ?_
    refine MJ_if_ge (tgt := 29) dX7_putRecord_10 (by decide) (fun c10 => ?_) (fun c10 => ((c10 (nI_pos' (by omega)))).elim)
    refine MJ_aload_n dX7_putRecord_29 rfl rfl isR_r ?_
    refine MJ_getA dX7_putRecord_30 g_X7_87 (by decide) ?_
    refine MJ_pc (pc' := 33) rfl ?_
    refine MJ_iload dX7_putRecord_33 rfl ?_
    refine MJ_iload_n dX7_putRecord_35 rfl rfl ?_
    refine MJ_iast dX7_putRecord_36 (inx_n (show k < 700 from hk) (by decide)) (by decide) ?_
    refine MJ_aload_n dX7_putRecord_37 rfl rfl isR_r ?_
    refine MJ_getA dX7_putRecord_38 g_X7_90 (by decide) ?_
    refine MJ_iload dX7_putRecord_41 rfl ?_
    refine MJ_iload_n dX7_putRecord_43 rfl rfl ?_
    refine MJ_iast dX7_putRecord_44 (inx_n (show k < 700 from hk) (by decide)) (by decide) ?_
    refine MJ_pc (pc' := 45) rfl ?_
    refine MJ_aload_n dX7_putRecord_45 rfl rfl isR_r ?_
    refine MJ_getA dX7_putRecord_46 g_X7_93 (by decide) ?_
    refine MJ_iload dX7_putRecord_49 rfl ?_
    refine MJ_iload_n dX7_putRecord_51 rfl rfl ?_
    refine MJ_iast dX7_putRecord_52 (inx_n (show k < 700 from hk) (by decide)) (by decide) ?_
    refine MJ_aload_n dX7_putRecord_53 rfl rfl isR_r ?_
    refine MJ_getA dX7_putRecord_54 g_X7_96 (by decide) ?_
    refine MJ_iload dX7_putRecord_57 rfl ?_
    refine MJ_pc (pc' := 59) rfl ?_
    refine MJ_lload dX7_putRecord_59 rfl ?_
    refine MJ_last dX7_putRecord_61 (inx_n (show k < 700 from hk) (by decide)) (by decide) ?_
    refine MJ_aload_n dX7_putRecord_62 rfl rfl isR_r ?_
    refine MJ_getA dX7_putRecord_63 g_X7_99 (by decide) ?_
    refine MJ_iload dX7_putRecord_66 rfl ?_
    refine MJ_iload dX7_putRecord_68 rfl ?_
    refine MJ_iast dX7_putRecord_70 (inx_n (show k < 700 from hk) (by decide)) (by decide) ?_
    exact MJ_return dX7_putRecord_71 rfl ⟨rfl, by unfold putRecF; rw [hf]; rfl⟩
end M2
end
section
/-! what each step leaves, and that WF1 is kept -/
section FR
variable {S : Ms}
theorem inN_nIlt {j n : Nat} (h : j < n) (hn : n ≤ 2147483648) : inN (nI j) n = true := by
  rw [inN_nI (by omega), decide_eq_true_iff]; exact h
theorem inN_succ {v : Int32} {n : Nat} (h : inN v n = true) (hn : n < 2147483648) (h2 : tn v + 1 < n) : inN (v + 1) n = true ∧ tn (v + 1) = tn v + 1 := by
  obtain ⟨h1, h3, h4⟩ := inN_tn h
  have e : v + 1 = nI (tn v + 1) := by conv => lhs; rw [h1]
                                       rw [nI_inc1]
  rw [e]
  exact ⟨inN_nIlt h2 (by omega), tn_nI (by omega)⟩
theorem nA_pT {f j : Nat} {v : Int32} : nA (pT S f j v) = nA S := by unfold nA; rw [mI_pT]
theorem nR_pT {f j : Nat} {v : Int32} : nR (pT S f j v) = nR S := by unfold nR; rw [mI_pT]
theorem nL_pT {f j : Nat} {v : Int32} : nL (pT S f j v) = nL S := by unfold nL; rw [mI_pT]
theorem nA_pJ {f j : Nat} {v : Int64} : nA (pJ S f j v) = nA S := by unfold nA; rw [mI_pJ]
theorem nR_pJ {f j : Nat} {v : Int64} : nR (pJ S f j v) = nR S := by unfold nR; rw [mI_pJ]
theorem nL_pJ {f j : Nat} {v : Int64} : nL (pJ S f j v) = nL S := by unfold nL; rw [mI_pJ]
theorem nA_pI {f : Nat} {v : Int32} (h : 453 ≠ f) : nA (pI S f v) = nA S := by unfold nA; rw [mI_pI_ne _ _ h]
theorem nR_pI {f : Nat} {v : Int32} (h : 476 ≠ f) : nR (pI S f v) = nR S := by unfold nR; rw [mI_pI_ne _ _ h]
theorem nL_pI {f : Nat} {v : Int32} (h : 468 ≠ f) : nL (pI S f v) = nL S := by unfold nL; rw [mI_pI_ne _ _ h]
theorem newAsk_nR (n sv kind a b t amt far : Int32) : nR (newAskF S n sv kind a b t amt far) = nR S := by
  unfold newAskF
  rw [nR_pT, nR_pT, nR_pT, nR_pT, nR_pT, nR_pT, nR_pT, nR_pT, nR_pT, nR_pT, nR_pT, nR_pT, nR_pT, nR_pI (by decide)]
theorem send_I (ask : Int32) (ans : Bool) (v : Int64) {f : Nat} (h : f ∉ [468, 483, 486]) : mI (sendF S ask ans v) f = mI S f := by
  simp only [List.mem_cons, List.not_mem_nil, or_false, not_or] at h
  unfold sendF
  split
  · rfl
  · split <;> simp [mI_pI, mI_pT, mI_pJ, h]
theorem send_T (ask : Int32) (ans : Bool) (v : Int64) {f : Nat} (h : f ∉ [469, 470, 471, 473]) : mT (sendF S ask ans v) f = mT S f := by
  simp only [List.mem_cons, List.not_mem_nil, or_false, not_or] at h
  unfold sendF
  split
  · rfl
  · split <;> (funext i; simp [mT_pI, mT_pT, mT_pJ, h])
theorem send_J (ask : Int32) (ans : Bool) (v : Int64) {f : Nat} (h : f ≠ 472) : mJ (sendF S ask ans v) f = mJ S f := by
  unfold sendF
  split
  · rfl
  · split <;> (funext i; simp [mJ_pI, mJ_pT, mJ_pJ, h])
theorem putAt_I (k : Nat) (o num st : Int32) (v : Int64) (own : Int32) (f : Nat) : mI (putAt S k o num st v own) f = mI S f := rfl
theorem putAt_T (k : Nat) (o num st : Int32) (v : Int64) (own : Int32) {f : Nat} (h : f ∉ [477, 478, 479, 481]) : mT (putAt S k o num st v own) f = mT S f := by
  simp only [List.mem_cons, List.not_mem_nil, or_false, not_or] at h
  unfold putAt
  funext i
  simp [mT_pT, mT_pJ, h]
theorem putAt_J (k : Nat) (o num st : Int32) (v : Int64) (own : Int32) {f : Nat} (h : f ≠ 480) : mJ (putAt S k o num st v own) f = mJ S f := by
  unfold putAt
  funext i
  simp [mJ_pT, mJ_pJ, h]
theorem put_I (o num st : Int32) (v : Int64) (own : Int32) {f : Nat} (h : f ≠ 476) : mI (putRecF S o num st v own) f = mI S f := by
  unfold putRecF
  split
  · rfl
  · rw [putAt_I, mI_pI_ne _ _ h]
theorem put_T (o num st : Int32) (v : Int64) (own : Int32) {f : Nat} (h : f ∉ [477, 478, 479, 481]) : mT (putRecF S o num st v own) f = mT S f := by
  unfold putRecF
  split
  · exact putAt_T _ _ _ _ _ _ h
  · exact putAt_T _ _ _ _ _ _ h
theorem put_J (o num st : Int32) (v : Int64) (own : Int32) {f : Nat} (h : f ≠ 480) : mJ (putRecF S o num st v own) f = mJ S f := by
  unfold putRecF
  split
  · exact putAt_J _ _ _ _ _ _ h
  · exact putAt_J _ _ _ _ _ _ h
theorem fg_le (o b : Int32) : ∀ k, (fgF S o b k).2 ≤ k
  | 0 => Nat.le_refl _
  | k + 1 => by
    have := fg_le o b k
    simp only [fgF]
    split
    · exact Nat.succ_le_succ this
    · omega
theorem recTo_T (l k : Nat) {f : Nat} (h : f ∉ [477, 478, 479, 481]) : mT (recTo S l k) f = mT S f := by
  simp only [List.mem_cons, List.not_mem_nil, or_false, not_or] at h
  unfold recTo
  funext i
  simp [mT_pT, mT_pJ, h]
theorem recTo_J (l k : Nat) {f : Nat} (h : f ≠ 480) : mJ (recTo S l k) f = mJ S f := by
  unfold recTo
  funext i
  simp [mJ_pT, mJ_pJ, h]
theorem fg_I (o b : Int32) (f : Nat) : ∀ k, mI (fgF S o b k).1 f = mI S f
  | 0 => rfl
  | k + 1 => by
    simp only [fgF]
    split
    · exact fg_I o b f k
    · exact fg_I o b f k
theorem fg_T (o b : Int32) {f : Nat} (h : f ∉ [477, 478, 479, 481]) : ∀ k, mT (fgF S o b k).1 f = mT S f
  | 0 => rfl
  | k + 1 => by
    simp only [fgF]
    split
    · rw [recTo_T _ _ h]; exact fg_T o b h k
    · exact fg_T o b h k
theorem fg_J (o b : Int32) {f : Nat} (h : f ≠ 480) : ∀ k, mJ (fgF S o b k).1 f = mJ S f
  | 0 => rfl
  | k + 1 => by
    simp only [fgF]
    split
    · rw [recTo_J _ _ h]; exact fg_J o b h k
    · exact fg_J o b h k
theorem forget_I (o b : Int32) {f : Nat} (h : f ≠ 476) : mI (forgetF S o b) f = mI S f := by
  unfold forgetF
  rw [mI_pI_ne _ _ h, fg_I]
theorem forget_T (o b : Int32) {f : Nat} (h : f ∉ [477, 478, 479, 481]) : mT (forgetF S o b) f = mT S f := fg_T o b h _
theorem forget_J (o b : Int32) {f : Nat} (h : f ≠ 480) : mJ (forgetF S o b) f = mJ S f := fg_J o b h _
theorem forget_n (hW : WF1 S) (o b : Int32) : inN (mI (forgetF S o b) 476) 701 = true ∧ nR (forgetF S o b) = (fgF S o b (nR S)).2 ∧ nR (forgetF S o b) ≤ nR S := by
  have h1 := fg_le (S := S) o b (nR S)
  have h2 := (inN_tn hW.1.2.2).2.1
  have h3 : nR S < 701 := h2
  have e : mI (forgetF S o b) 476 = nI (fgF S o b (nR S)).2 := by unfold forgetF; rw [mI_pI, if_pos rfl]
  have e2 : nR (forgetF S o b) = (fgF S o b (nR S)).2 := by unfold nR; rw [e]; exact tn_nI (by omega)
  refine ⟨by rw [e]; exact inN_nIlt (by omega) (by decide), e2, by omega⟩
theorem WF1_forget (hW : WF1 S) (o b : Int32) : WF1 (forgetF S o b) := by
  obtain ⟨h1, h2, h3⟩ := forget_n hW o b
  have a1 : nA (forgetF S o b) = nA S := congrArg tn (forget_I o b (by decide))
  have a2 : nL (forgetF S o b) = nL S := congrArg tn (forget_I o b (by decide))
  have key : ∀ k, k ≤ nR S → ∀ r, r < nR S → mT (fgF S o b k).1 479 r = 2 → inN (mT (fgF S o b k).1 481 r) (nA S) = true := by
    intro k
    induction k with
    | zero => intro _; exact hW.2.2.2.2.1
    | succ k ih =>
      intro hk r hr
      simp only [fgF]
      split
      · intro h4
        unfold recTo at h4 ⊢
        simp only [mT_pT, mT_pJ] at h4 ⊢
        by_cases e : r = (fgF S o b k).2
        · simp only [e, and_self, if_true, if_pos, Nat.reduceEqDiff, false_and, if_false] at h4 ⊢
          exact ih (by omega) k (by omega) h4
        · simp only [e, and_false, if_false] at h4 ⊢
          exact ih (by omega) r hr h4
      · exact ih (by omega) r hr
  refine ⟨⟨by rw [forget_I _ _ (by decide)]; exact hW.1.1, by rw [forget_I _ _ (by decide)]; exact hW.1.2.1, h1⟩, ?_, ?_, ?_, ?_, ?_⟩
  · rw [a1, forget_T _ _ (by decide), forget_T _ _ (by decide), forget_T _ _ (by decide), forget_T _ _ (by decide), forget_T _ _ (by decide)]
    exact hW.2.1
  · rw [a1, a2, forget_T _ _ (by decide)]
    exact hW.2.2.1
  · rw [forget_T _ _ (by decide), forget_T _ _ (by decide)]
    exact hW.2.2.2.1
  · intro r hr h4
    rw [a1]
    exact key _ (Nat.le_refl _) r (by omega) h4
  · rw [a1, forget_T _ _ (by decide), forget_T _ _ (by decide)]
    exact hW.2.2.2.2.2
theorem WF1_send (hW : WF1 S) {ask : Int32} {ans : Bool} {v : Int64} (ha : inN ask (nA S) = true) : WF1 (sendF S ask ans v) := by
  have hl := inN_tn hW.1.2.1
  unfold sendF
  split
  · exact hW
  · split
    · exact WF1_pI (by decide) (WF1_pI (by decide) hW)
    · rename_i c1 c2
      have h120 : tn (mI S 468) ≠ 120 := fun z => c2 (by rw [hl.1, z]; rfl)
      have hs := inN_succ hW.1.2.1 (by decide) (show tn (mI S 468) + 1 < 121 by omega)
      refine ⟨⟨hW.1.1, ?_, hW.1.2.2⟩, ?_, ?_, ?_, hW.2.2.2.2.1, hW.2.2.2.2.2⟩
      · exact hs.1
      · exact hW.2.1
      · intro i hi
        have hi2 : i < tn (mI S 468) + 1 := by rw [← hs.2]; exact hi
        by_cases e : i = nL S
        · rw [e]
          show inN _ (nA S) = true
          simp only [mT_pI, mT_pT, mT_pJ, and_self, if_true, Nat.reduceEqDiff, false_and, if_false]
          exact ha
        · have hi3 : i < nL S := by unfold nL at e ⊢; omega
          have := hW.2.2.1 i hi3
          simp only [mT_pI, mT_pT, mT_pJ, e, and_false, if_false]
          exact this
      · intro i
        have := hW.2.2.2.1 i
        simp only [mT_pI, mT_pT, mT_pJ]
        by_cases e : i = nL S
        · simp only [e, and_true, Nat.reduceEqDiff, if_false, if_true]
          exact ⟨bi_01, by simp⟩
        · simp only [e, and_false, if_false]
          exact this
theorem WF1_putAt (hW : WF1 S) {k : Nat} {o num st : Int32} {v : Int64} {own : Int32} (h2 : st = 2 → inN own (nA S) = true) : WF1 (putAt S k o num st v own) := by
  refine ⟨hW.1, hW.2.1, hW.2.2.1, hW.2.2.2.1, ?_, hW.2.2.2.2.2⟩
  intro r hr h4
  unfold putAt at h4 ⊢
  simp only [mT_pT, mT_pJ] at h4 ⊢
  by_cases e : r = k
  · simp only [e, and_true, and_self, Nat.reduceEqDiff, if_false, if_true] at h4 ⊢
    exact h2 h4
  · simp only [e, and_false, if_false] at h4 ⊢
    exact hW.2.2.2.2.1 r hr h4
theorem put_n (hW : WF1 S) (hr : nR S < 700) (o num st : Int32) (v : Int64) (own : Int32) : nR (putRecF S o num st v own) ≤ nR S + 1 := by
  unfold putRecF
  split
  · show nR S ≤ _; omega
  · have hs := inN_succ hW.1.2.2 (by decide) (show tn (mI S 476) + 1 < 701 by unfold nR at hr; omega)
    show tn (mI S 476 + 1) ≤ _
    rw [hs.2]
    exact Nat.le_refl _
theorem WF1_put (hW : WF1 S) (hr : nR S < 700) {o num st : Int32} {v : Int64} {own : Int32} (h2 : st = 2 → inN own (nA S) = true) : WF1 (putRecF S o num st v own) := by
  unfold putRecF
  split
  · exact WF1_putAt hW h2
  · have hs := inN_succ hW.1.2.2 (by decide) (show tn (mI S 476) + 1 < 701 by unfold nR at hr; omega)
    refine ⟨⟨hW.1.1, hW.1.2.1, hs.1⟩, hW.2.1, hW.2.2.1, hW.2.2.2.1, ?_, hW.2.2.2.2.2⟩
    intro r hr2 h4
    have hr3 : r < tn (mI S 476) + 1 := by rw [← hs.2]; exact hr2
    unfold putAt at h4 ⊢
    simp only [mT_pT, mT_pJ, mT_pI] at h4 ⊢
    by_cases e : r = nR S
    · simp only [e, and_true, and_self, Nat.reduceEqDiff, if_false, if_true] at h4 ⊢
      exact h2 h4
    · simp only [e, and_false, if_false] at h4 ⊢
      exact hW.2.2.2.2.1 r (by unfold nR at e ⊢; omega) h4
theorem inN_ge {v : Int32} {n m : Nat} (h : inN v n = true) (hm : n ≤ m) : inN v m = true := inN_le h hm
theorem WF1_newAsk (hW : WF1 S) (h300 : nA S < 300) {n sv kind a b t amt far : Int32} (h1 : inN n 10 = true) (h2 : inN sv 4 = true) (h3 : inN a 6 = true) (h4 : inN b 6 = true) (h5 : inN t 4 = true) (h6 : 5 < n → inN far (nA S) = true) : WF1 (newAskF S n sv kind a b t amt far) ∧ nA (newAskF S n sv kind a b t amt far) = nA S + 1 := by
  have hs := inN_succ hW.1.1 (by decide) (show tn (mI S 453) + 1 < 301 by unfold nA at h300; omega)
  have e1 : nA (newAskF S n sv kind a b t amt far) = nA S + 1 := hs.2
  refine ⟨⟨⟨hs.1, hW.1.2.1, hW.1.2.2⟩, ?_, ?_, hW.2.2.2.1, ?_, ?_⟩, e1⟩
  · intro k hk
    rw [e1] at hk
    unfold newAskF
    simp only [mT_pI, mT_pT, mT_pJ, Nat.reduceEqDiff, false_and, true_and, if_false]
    by_cases e : k = nA S
    · simp only [e, if_true]
      exact ⟨h1, h2, h3, h4, h5⟩
    · simp only [e, if_false]
      exact hW.2.1 k (by omega)
  · intro i hi
    rw [e1]
    exact inN_le (hW.2.2.1 i hi) (Nat.le_succ _)
  · intro r hr hh
    rw [e1]
    exact inN_le (hW.2.2.2.2.1 r hr hh) (Nat.le_succ _)
  · intro k hk
    rw [e1] at hk ⊢
    unfold newAskF
    simp only [mT_pI, mT_pT, mT_pJ, Nat.reduceEqDiff, false_and, true_and, if_false]
    by_cases e : k = nA S
    · simp only [e, if_true]
      exact fun z => inN_le (h6 z) (Nat.le_succ _)
    · simp only [e, if_false]
      exact fun z => inN_le (hW.2.2.2.2.2 k (by omega) z) (Nat.le_succ _)
theorem rm_I (i f : Nat) : ∀ m, mI (rmF S i m) f = mI S f
  | 0 => rfl
  | m + 1 => rm_I i f m
theorem rm_T (i : Nat) {f : Nat} (h : f ∉ [469, 470, 471, 473]) : ∀ m, mT (rmF S i m) f = mT S f
  | 0 => rfl
  | m + 1 => by
    rw [← rm_T i h m]
    simp only [List.mem_cons, List.not_mem_nil, or_false, not_or] at h
    funext j
    simp [rmF, letTo, mT_pT, mT_pJ, h]
theorem rm_J (i : Nat) {f : Nat} (h : f ≠ 472) : ∀ m, mJ (rmF S i m) f = mJ S f
  | 0 => rfl
  | m + 1 => by
    rw [← rm_J i h m]
    funext j
    simp [rmF, letTo, mJ_pT, mJ_pJ, h]
theorem rm_at (i : Nat) : ∀ m, (∀ f ∈ [469, 470, 471, 473], ∀ j, mT (rmF S i m) f j = if i ≤ j ∧ j < i + m then mT S f (j + 1) else mT S f j) ∧ ∀ j, mJ (rmF S i m) 472 j = if i ≤ j ∧ j < i + m then mJ S 472 (j + 1) else mJ S 472 j
  | 0 => by
    refine ⟨fun f _ j => ?_, fun j => ?_⟩ <;> (rw [if_neg (by omega)]; rfl)
  | m + 1 => by
    obtain ⟨h1, h2⟩ := rm_at i m
    refine ⟨fun f hf j => ?_, fun j => ?_⟩
    · have e1 := h1 f hf j
      have e2 := h1 f hf (i + m + 1)
      rw [if_neg (by omega)] at e2
      have e3 : mT (rmF S i (m + 1)) f j = if j = i + m then mT (rmF S i m) f (i + m + 1) else mT (rmF S i m) f j := by
        simp only [List.mem_cons, List.not_mem_nil, or_false] at hf
        rcases hf with rfl | rfl | rfl | rfl <;> (by_cases e : j = i + m <;> simp [rmF, letTo, mT_pT, mT_pJ, e])
      rw [e3]
      by_cases e : j = i + m
      · rw [if_pos e, e2, if_pos (by omega), e]
      · rw [if_neg e, e1]
        by_cases e5 : i ≤ j ∧ j < i + m
        · rw [if_pos e5, if_pos (by omega)]
        · rw [if_neg e5, if_neg (by omega)]
    · have e1 := h2 j
      have e2 := h2 (i + m + 1)
      rw [if_neg (by omega)] at e2
      have e3 : mJ (rmF S i (m + 1)) 472 j = if j = i + m then mJ (rmF S i m) 472 (i + m + 1) else mJ (rmF S i m) 472 j := by
        by_cases e : j = i + m <;> simp [rmF, letTo, mJ_pT, mJ_pJ, e]
      rw [e3]
      by_cases e : j = i + m
      · rw [if_pos e, e2, if_pos (by omega), e]
      · rw [if_neg e, e1]
        by_cases e5 : i ≤ j ∧ j < i + m
        · rw [if_pos e5, if_pos (by omega)]
        · rw [if_neg e5, if_neg (by omega)]
theorem rm_n (hW : WF1 S) {i : Nat} (hi : i < nL S) : mI (removeF S i) 468 = nI (nL S - 1) ∧ nL (removeF S i) = nL S - 1 := by
  obtain ⟨h1, h2, h3⟩ := inN_tn hW.1.2.1
  have h4 : nL S < 121 := h2
  have e : mI (removeF S i) 468 = nI (nL S - 1) := by
    unfold removeF
    rw [rm_I, mI_pI, if_pos rfl, h1]
    show nI (nL S) - nI 1 = nI (nL S - 1)
    exact nI_sub (by omega)
  exact ⟨e, by unfold nL; rw [e]; exact tn_nI (by omega)⟩
theorem remove_I (i : Nat) {f : Nat} (h : f ≠ 468) : mI (removeF S i) f = mI S f := by
  unfold removeF
  rw [rm_I, mI_pI_ne _ _ h]
theorem remove_T (i : Nat) {f : Nat} (h : f ∉ [469, 470, 471, 473]) : mT (removeF S i) f = mT S f := by
  unfold removeF
  rw [rm_T _ h]
  rfl
theorem remove_J (i : Nat) {f : Nat} (h : f ≠ 472) : mJ (removeF S i) f = mJ S f := by
  unfold removeF
  rw [rm_J _ h]
  rfl
theorem remove_at {i : Nat} (hi : i < nL S) : (∀ f ∈ [469, 470, 471, 473], ∀ j, mT (removeF S i) f j = if i ≤ j ∧ j < nL S - 1 then mT S f (j + 1) else mT S f j) ∧ ∀ j, mJ (removeF S i) 472 j = if i ≤ j ∧ j < nL S - 1 then mJ S 472 (j + 1) else mJ S 472 j := by
  have h := rm_at (S := pI S 468 (mI S 468 - 1)) i (nL S - 1 - i)
  rw [show i + (nL S - 1 - i) = nL S - 1 by omega] at h
  exact h
theorem WF1_remove (hW : WF1 S) {i : Nat} (hi : i < nL S) : WF1 (removeF S i) := by
  obtain ⟨h1, h2⟩ := rm_n hW hi
  obtain ⟨h3, h4⟩ := remove_at (S := S) hi
  have hl := (inN_tn hW.1.2.1).2.1
  have hl2 : nL S < 121 := hl
  have a1 : nA (removeF S i) = nA S := congrArg tn (remove_I i (by decide))
  have a3 : nR (removeF S i) = nR S := congrArg tn (remove_I i (by decide))
  refine ⟨⟨by rw [remove_I i (by decide)]; exact hW.1.1, by rw [h1]; exact inN_nIlt (by omega) (by decide), by rw [remove_I i (by decide)]; exact hW.1.2.2⟩, ?_, ?_, ?_, ?_, ?_⟩
  · rw [a1, remove_T i (by decide), remove_T i (by decide), remove_T i (by decide), remove_T i (by decide), remove_T i (by decide)]
    exact hW.2.1
  · intro j hj
    rw [h2] at hj
    rw [a1, h3 469 (by decide)]
    split
    · exact hW.2.2.1 _ (by omega)
    · exact hW.2.2.1 _ (by omega)
  · intro j
    rw [h3 470 (by decide), h3 473 (by decide)]
    split
    · exact hW.2.2.2.1 (j + 1)
    · exact hW.2.2.2.1 j
  · rw [a1, a3, remove_T i (by decide), remove_T i (by decide)]
    exact hW.2.2.2.2.1
  · rw [a1, remove_T i (by decide), remove_T i (by decide)]
    exact hW.2.2.2.2.2
end FR
end
section
section M3
variable {x : om_x} {y : om_y} {S : Ms}
theorem put_nA (o num st : Int32) (v : Int64) (own : Int32) : nA (putRecF S o num st v own) = nA S := congrArg tn (put_I o num st v own (by decide))
theorem send_nA (ask : Int32) (ans : Bool) (v : Int64) : nA (sendF S ask ans v) = nA S := congrArg tn (send_I ask ans v (by decide))
theorem send_nR (ask : Int32) (ans : Bool) (v : Int64) : nR (sendF S ask ans v) = nR S := congrArg tn (send_I ask ans v (by decide))
theorem forget_nA (o b : Int32) : nA (forgetF S o b) = nA S := congrArg tn (forget_I o b (by decide))
theorem WF1.le300 (hW : WF1 S) {ask : Int32} (ha : inN ask (nA S) = true) : inN ask 300 = true := inN_le ha (Nat.le_of_lt_succ (inN_tn hW.1.1).2.1)
set_option maxRecDepth 100000 in
set_option maxHeartbeats 4000000 in
theorem mm_forget {o b : Int32} (hn : inN (mI S 476) 701 = true) : MM x y 0 kX7_forget [.ref y.1, .int o, .int b] S (fun z S' => z = some (.int (nI (goneF S o b))) ∧ S' = forgetF S o b) := by
  refine MM.ofJ mkX7_forget.1 (Nat.le_of_ble_eq_true rfl) fun h0 => ?_
  obtain ⟨hn1, hn2, hn3⟩ := inN_tn hn
  have lp : ∀ m k, k ≤ nR S → nR S - k < m → MJ x y h0 0 (fun z S' => z = some (.int (nI (goneF S o b))) ∧ S' = forgetF S o b) kX7_forget 5 [(0, .ref y.1), (1, .int o), (2, .int b), (3, .int (nI (fgF S o b k).2)), (4, .int (nI k))] [] (fgF S o b k).1 := by
    intro m
    induction m with
    | zero => intro k _ h; omega
    | succ m ih =>
      intro k hk hm
      have hk2 : nR S < 701 := hn2
      have hle := fg_le (S := S) o b k
      refine MJ_iload dX7_forget_5 rfl ?_
      refine MJ_aload_n dX7_forget_7 rfl rfl isR_r ?_
      refine MJ_getI dX7_forget_8 g_X7_166 ?_
      rw [fg_I, show mI S 476 = nI (nR S) from hn1]
      refine MJ_icmp_ge (tgt := 110) dX7_forget_11 (by decide) (fun c11 => ?_) (fun c11 => ?_)
      · rw [nI_lei (by omega) (by omega)] at c11
        have e : k = nR S := by omega
        subst e
        refine MJ_aload_n dX7_forget_110 rfl rfl isR_r ?_
        refine MJ_getI dX7_forget_111 g_X7_166 ?_
        refine MJ_iload_n dX7_forget_114 rfl rfl ?_
        rw [fg_I, show mI S 476 = nI (nR S) from hn1]
        refine MJ_isub dX7_forget_115 ?_
        rw [nI_sub hle]
        refine MJ_istore dX7_forget_116 (by decide) ?_
        refine MJ_aload_n dX7_forget_118 rfl rfl isR_r ?_
        refine MJ_iload_n dX7_forget_119 rfl rfl ?_
        refine MJ_putI dX7_forget_120 p_X7_166 ?_
        refine MJ_pc (pc' := 123) rfl ?_
        refine MJ_iload dX7_forget_123 rfl ?_
        exact MJ_ireturn dX7_forget_125 rfl ⟨rfl, rfl⟩
      · rw [nI_lei (by omega) (by omega)] at c11
        refine MJ_aload_n dX7_forget_14 rfl rfl isR_r ?_
        refine MJ_getA dX7_forget_15 g_X7_87 (by decide) ?_
        refine MJ_iload dX7_forget_18 rfl ?_
        refine MJ_iald dX7_forget_20 (by first | assumption | exact inx_v (by assumption) | exact inx_n (show _ < 700 by omega) (by decide)) (by decide) ?_
        refine MJ_iload_n dX7_forget_21 rfl rfl ?_
        refine MJ_icmp_ne (tgt := 36) dX7_forget_22 (by decide) (fun c22 => ?_) (fun c22 => ?_)
        · refine MJ_aload_n dX7_forget_36 rfl rfl isR_r ?_
          refine MJ_getA dX7_forget_37 g_X7_87 (by decide) ?_
          refine MJ_iload_n dX7_forget_40 rfl rfl ?_
          refine MJ_aload_n dX7_forget_41 rfl rfl isR_r ?_
          refine MJ_getA dX7_forget_42 g_X7_87 (by decide) ?_
          refine MJ_iload dX7_forget_45 rfl ?_
          refine MJ_iald dX7_forget_47 (by first | assumption | exact inx_v (by assumption) | exact inx_n (show _ < 700 by omega) (by decide)) (by decide) ?_
          refine MJ_iast dX7_forget_48 (by first | assumption | exact inx_v (by assumption) | exact inx_n (show _ < 700 by omega) (by decide)) (by decide) ?_
          refine MJ_pc (pc' := 49) rfl ?_
          refine MJ_aload_n dX7_forget_49 rfl rfl isR_r ?_
          refine MJ_getA dX7_forget_50 g_X7_90 (by decide) ?_
          refine MJ_iload_n dX7_forget_53 rfl rfl ?_
          refine MJ_aload_n dX7_forget_54 rfl rfl isR_r ?_
          refine MJ_getA dX7_forget_55 g_X7_90 (by decide) ?_
          refine MJ_iload dX7_forget_58 rfl ?_
          refine MJ_iald dX7_forget_60 (by first | assumption | exact inx_v (by assumption) | exact inx_n (show _ < 700 by omega) (by decide)) (by decide) ?_
          refine MJ_iast dX7_forget_61 (by first | assumption | exact inx_v (by assumption) | exact inx_n (show _ < 700 by omega) (by decide)) (by decide) ?_
          refine MJ_pc (pc' := 62) rfl ?_
          refine MJ_aload_n dX7_forget_62 rfl rfl isR_r ?_
          refine MJ_getA dX7_forget_63 g_X7_93 (by decide) ?_
          refine MJ_iload_n dX7_forget_66 rfl rfl ?_
          refine MJ_aload_n dX7_forget_67 rfl rfl isR_r ?_
          refine MJ_getA dX7_forget_68 g_X7_93 (by decide) ?_
          refine MJ_iload dX7_forget_71 rfl ?_
          refine MJ_iald dX7_forget_73 (by first | assumption | exact inx_v (by assumption) | exact inx_n (show _ < 700 by omega) (by decide)) (by decide) ?_
          refine MJ_iast dX7_forget_74 (by first | assumption | exact inx_v (by assumption) | exact inx_n (show _ < 700 by omega) (by decide)) (by decide) ?_
          refine MJ_pc (pc' := 75) rfl ?_
          refine MJ_aload_n dX7_forget_75 rfl rfl isR_r ?_
          refine MJ_getA dX7_forget_76 g_X7_96 (by decide) ?_
          refine MJ_iload_n dX7_forget_79 rfl rfl ?_
          refine MJ_aload_n dX7_forget_80 rfl rfl isR_r ?_
          refine MJ_getA dX7_forget_81 g_X7_96 (by decide) ?_
          refine MJ_iload dX7_forget_84 rfl ?_
          refine MJ_lald dX7_forget_86 (by first | assumption | exact inx_v (by assumption) | exact inx_n (show _ < 700 by omega) (by decide)) (by decide) ?_
          refine MJ_last dX7_forget_87 (by first | assumption | exact inx_v (by assumption) | exact inx_n (show _ < 700 by omega) (by decide)) (by decide) ?_
          refine MJ_pc (pc' := 88) rfl ?_
          refine MJ_aload_n dX7_forget_88 rfl rfl isR_r ?_
          refine MJ_getA dX7_forget_89 g_X7_99 (by decide) ?_
          refine MJ_iload_n dX7_forget_92 rfl rfl ?_
          refine MJ_aload_n dX7_forget_93 rfl rfl isR_r ?_
          refine MJ_getA dX7_forget_94 g_X7_99 (by decide) ?_
          refine MJ_iload dX7_forget_97 rfl ?_
          refine MJ_iald dX7_forget_99 (by first | assumption | exact inx_v (by assumption) | exact inx_n (show _ < 700 by omega) (by decide)) (by decide) ?_
          refine MJ_iast dX7_forget_100 (by first | assumption | exact inx_v (by assumption) | exact inx_n (show _ < 700 by omega) (by decide)) (by decide) ?_
          refine MJ_pc (pc' := 101) rfl ?_
          refine MJ_iinc dX7_forget_101 rfl (nI_inc _) (by decide) ?_
          refine MJ_iinc dX7_forget_104 rfl (nI_inc _) (by decide) ?_
          refine MJ_goto (tgt := 5) dX7_forget_107 (by decide) ?_
          have e : fgF S o b (k + 1) = (recTo (fgF S o b k).1 (fgF S o b k).2 k, (fgF S o b k).2 + 1) := by simp only [fgF]; rw [if_pos (Or.inl c22)]
          refine MJ_S (S' := (fgF S o b (k + 1)).1) (by rw [e]; rfl) ?_
          exact MJ_loc _ rfl (by have := ih (k + 1) (by omega) (by omega); rw [show (fgF S o b (k + 1)).2 = (fgF S o b k).2 + 1 by rw [e]] at this; exact this)
        · refine MJ_aload_n dX7_forget_25 rfl rfl isR_r ?_
          refine MJ_getA dX7_forget_26 g_X7_90 (by decide) ?_
          refine MJ_iload dX7_forget_29 rfl ?_
          refine MJ_iald dX7_forget_31 (by first | assumption | exact inx_v (by assumption) | exact inx_n (show _ < 700 by omega) (by decide)) (by decide) ?_
          refine MJ_iload_n dX7_forget_32 rfl rfl ?_
          refine MJ_icmp_lt (tgt := 104) dX7_forget_33 (by decide) (fun c33 => ?_) (fun c33 => ?_)
          · refine MJ_iinc dX7_forget_104 rfl (nI_inc _) (by decide) ?_
            refine MJ_goto (tgt := 5) dX7_forget_107 (by decide) ?_
            have e : fgF S o b (k + 1) = fgF S o b k := by simp only [fgF]; rw [if_neg (fun z => z.elim (fun q => q c22) (fun z => by rw [n_le] at z; rw [n_lt] at c33; omega))]
            exact MJ_loc _ rfl (by have := ih (k + 1) (by omega) (by omega); rw [e] at this; exact this)
          · refine MJ_aload_n dX7_forget_36 rfl rfl isR_r ?_
            refine MJ_getA dX7_forget_37 g_X7_87 (by decide) ?_
            refine MJ_iload_n dX7_forget_40 rfl rfl ?_
            refine MJ_aload_n dX7_forget_41 rfl rfl isR_r ?_
            refine MJ_getA dX7_forget_42 g_X7_87 (by decide) ?_
            refine MJ_iload dX7_forget_45 rfl ?_
            refine MJ_iald dX7_forget_47 (by first | assumption | exact inx_v (by assumption) | exact inx_n (show _ < 700 by omega) (by decide)) (by decide) ?_
            refine MJ_iast dX7_forget_48 (by first | assumption | exact inx_v (by assumption) | exact inx_n (show _ < 700 by omega) (by decide)) (by decide) ?_
            refine MJ_pc (pc' := 49) rfl ?_
            refine MJ_aload_n dX7_forget_49 rfl rfl isR_r ?_
            refine MJ_getA dX7_forget_50 g_X7_90 (by decide) ?_
            refine MJ_iload_n dX7_forget_53 rfl rfl ?_
            refine MJ_aload_n dX7_forget_54 rfl rfl isR_r ?_
            refine MJ_getA dX7_forget_55 g_X7_90 (by decide) ?_
            refine MJ_iload dX7_forget_58 rfl ?_
            refine MJ_iald dX7_forget_60 (by first | assumption | exact inx_v (by assumption) | exact inx_n (show _ < 700 by omega) (by decide)) (by decide) ?_
            refine MJ_iast dX7_forget_61 (by first | assumption | exact inx_v (by assumption) | exact inx_n (show _ < 700 by omega) (by decide)) (by decide) ?_
            refine MJ_pc (pc' := 62) rfl ?_
            refine MJ_aload_n dX7_forget_62 rfl rfl isR_r ?_
            refine MJ_getA dX7_forget_63 g_X7_93 (by decide) ?_
            refine MJ_iload_n dX7_forget_66 rfl rfl ?_
            refine MJ_aload_n dX7_forget_67 rfl rfl isR_r ?_
            refine MJ_getA dX7_forget_68 g_X7_93 (by decide) ?_
            refine MJ_iload dX7_forget_71 rfl ?_
            refine MJ_iald dX7_forget_73 (by first | assumption | exact inx_v (by assumption) | exact inx_n (show _ < 700 by omega) (by decide)) (by decide) ?_
            refine MJ_iast dX7_forget_74 (by first | assumption | exact inx_v (by assumption) | exact inx_n (show _ < 700 by omega) (by decide)) (by decide) ?_
            refine MJ_pc (pc' := 75) rfl ?_
            refine MJ_aload_n dX7_forget_75 rfl rfl isR_r ?_
            refine MJ_getA dX7_forget_76 g_X7_96 (by decide) ?_
            refine MJ_iload_n dX7_forget_79 rfl rfl ?_
            refine MJ_aload_n dX7_forget_80 rfl rfl isR_r ?_
            refine MJ_getA dX7_forget_81 g_X7_96 (by decide) ?_
            refine MJ_iload dX7_forget_84 rfl ?_
            refine MJ_lald dX7_forget_86 (by first | assumption | exact inx_v (by assumption) | exact inx_n (show _ < 700 by omega) (by decide)) (by decide) ?_
            refine MJ_last dX7_forget_87 (by first | assumption | exact inx_v (by assumption) | exact inx_n (show _ < 700 by omega) (by decide)) (by decide) ?_
            refine MJ_pc (pc' := 88) rfl ?_
            refine MJ_aload_n dX7_forget_88 rfl rfl isR_r ?_
            refine MJ_getA dX7_forget_89 g_X7_99 (by decide) ?_
            refine MJ_iload_n dX7_forget_92 rfl rfl ?_
            refine MJ_aload_n dX7_forget_93 rfl rfl isR_r ?_
            refine MJ_getA dX7_forget_94 g_X7_99 (by decide) ?_
            refine MJ_iload dX7_forget_97 rfl ?_
            refine MJ_iald dX7_forget_99 (by first | assumption | exact inx_v (by assumption) | exact inx_n (show _ < 700 by omega) (by decide)) (by decide) ?_
            refine MJ_iast dX7_forget_100 (by first | assumption | exact inx_v (by assumption) | exact inx_n (show _ < 700 by omega) (by decide)) (by decide) ?_
            refine MJ_pc (pc' := 101) rfl ?_
            refine MJ_iinc dX7_forget_101 rfl (nI_inc _) (by decide) ?_
            refine MJ_iinc dX7_forget_104 rfl (nI_inc _) (by decide) ?_
            refine MJ_goto (tgt := 5) dX7_forget_107 (by decide) ?_
            have e : fgF S o b (k + 1) = (recTo (fgF S o b k).1 (fgF S o b k).2 k, (fgF S o b k).2 + 1) := by simp only [fgF]; rw [if_pos (Or.inr (by rw [n_le]; rw [n_lt] at c33; omega))]
            refine MJ_S (S' := (fgF S o b (k + 1)).1) (by rw [e]; rfl) ?_
            exact MJ_loc _ rfl (by have := ih (k + 1) (by omega) (by omega); rw [show (fgF S o b (k + 1)).2 = (fgF S o b k).2 + 1 by rw [e]] at this; exact this)
  refine MJ_iconst (v := 0) dX7_forget_0 (by decide) ?_
  refine MJ_istore_n dX7_forget_1 rfl (by decide) ?_
  refine MJ_iconst (v := 0) dX7_forget_2 (by decide) ?_
  refine MJ_istore dX7_forget_3 (by decide) ?_
  exact MJ_loc _ rfl (lp (nR S + 1) 0 (by omega) (by omega))
set_option maxRecDepth 100000 in
set_option maxHeartbeats 4000000 in
theorem mm_done {o ask : Int32} {v : Int64} (hW : WF1 S) (ha : inN ask (nA S) = true) (hr : nR S < 700) : MM x y 2 kX7_done [.ref y.1, .int o, .int ask, .long v] S (fun z S' => z = none ∧ S' = doneF S o ask v) := by
  refine MM.ofJ mkX7_done.1 (Nat.le_of_ble_eq_true rfl) fun h0 => ?_
  refine MJ_aload_n dX7_done_0 rfl rfl isR_r ?_
  refine MJ_iload_n dX7_done_1 rfl rfl ?_
  refine MJ_aload_n dX7_done_2 rfl rfl isR_r ?_
  refine MJ_getA dX7_done_3 g_X7_30 (by decide) ?_
  refine MJ_iload_n dX7_done_6 rfl rfl ?_
  refine MJ_iald dX7_done_7 (inx_v (hW.le300 ha)) (by decide) ?_
  refine MJ_iconst (v := 1) dX7_done_8 (by decide) ?_
  refine MJ_lload_n dX7_done_9 rfl rfl ?_
  refine MJ_pc (pc' := 10) rfl ?_
  refine MJ_iconst (v := -1) dX7_done_10 (by decide) ?_
  refine MJ_callV (mm_putRecord hW hr) dX7_done_11 ml_X7_175 mkX7_putRecord rfl rfl rfl (Nat.le_of_ble_eq_true rfl) ⟨Nat.le_of_ble_eq_true rfl, Nat.le_of_ble_eq_true rfl⟩ (fun v11 h11 q11 => ?_)
  obtain ⟨rfl, z11⟩ := q11
  rw [z11]
  refine MJ_aload_n dX7_done_14 rfl rfl isR_r ?_
  refine MJ_iload_n dX7_done_15 rfl rfl ?_
  refine MJ_iconst (v := 1) dX7_done_16 (by decide) ?_
  refine MJ_lload_n dX7_done_17 rfl rfl ?_
  refine MJ_callV (mm_send (ans := true) (WF1_put hW hr (fun z => absurd z (by decide))) (by rw [put_nA]; exact ha)) dX7_done_18 ml_X7_151 mkX7_send rfl rfl rfl (Nat.le_of_ble_eq_true rfl) ⟨Nat.le_of_ble_eq_true rfl, Nat.le_of_ble_eq_true rfl⟩ (fun v18 h18 q18 => ?_)
  obtain ⟨rfl, z18⟩ := q18
  rw [z18]
  exact MJ_return dX7_done_21 rfl ⟨rfl, rfl⟩
theorem WF1_done (hW : WF1 S) {o ask : Int32} {v : Int64} (ha : inN ask (nA S) = true) (hr : nR S < 700) : WF1 (doneF S o ask v) := WF1_send (WF1_put hW hr (fun z => absurd z (by decide))) (by rw [put_nA]; exact ha)
set_option maxRecDepth 100000 in
set_option maxHeartbeats 4000000 in
theorem mm_cancel {o ask : Int32} (hW : WF1 S) (ho : inN o 40 = true) (ha : inN ask (nA S) = true) (hr : nR S + 1 < 700) : MM x y 3 kX7_cancel [.ref y.1, .int o, .int ask] S (fun z S' => z = none ∧ S' = cancelF S o ask) := by
  refine MM.ofJ mkX7_cancel.1 (Nat.le_of_ble_eq_true rfl) fun h0 => ?_
  have ha3 := hW.le300 ha
  have fin : ∀ v : Int64, cancelA S o ask = v → v ≠ 1 → cancelF S o ask = doneF S o ask v := fun v e h => by unfold cancelF; rw [e, if_neg h]
  have fin1 : cancelA S o ask = 1 → cancelF S o ask = doneF (putRecF S o (mT S 462 (tn ask)) 3 0 (-1)) o ask 1 := fun e => by unfold cancelF; rw [e, if_pos rfl]
  cases hf : fnd S o (mT S 462 (tn ask)) with
  | none =>
    refine MJ_aload_n dX7_cancel_0 rfl rfl isR_r ?_
    refine MJ_getA dX7_cancel_1 g_X7_48 (by decide) ?_
    refine MJ_iload_n dX7_cancel_4 rfl rfl ?_
    refine MJ_iald dX7_cancel_5 (inx_v ha3) (by decide) ?_
    refine MJ_istore_n dX7_cancel_6 rfl (by decide) ?_
    refine MJ_aload_n dX7_cancel_7 rfl rfl isR_r ?_
    refine MJ_iload_n dX7_cancel_8 rfl rfl ?_
    refine MJ_iload_n dX7_cancel_9 rfl rfl ?_
    refine MJ_pc (pc' := 10) rfl ?_
    refine MJ_callV (mm_findRecord hW.1.2.2) dX7_cancel_10 ml_X7_169 mkX7_findRecord rfl rfl rfl (Nat.le_of_ble_eq_true rfl) ⟨Nat.le_of_ble_eq_true rfl, Nat.le_of_ble_eq_true rfl⟩ (fun v10 h10 q10 => ?_)
    obtain ⟨rfl, z10⟩ := q10
    rw [z10]
    refine MJ_istore dX7_cancel_13 (by decide) ?_
    refine MJ_lconst (v := 1) dX7_cancel_15 (by decide) ?_
    refine MJ_lstore dX7_cancel_16 (by decide) ?_
    refine MJ_iload_n dX7_cancel_18 rfl rfl ?_
    refine MJ_aload_n dX7_cancel_19 rfl rfl isR_r ?_
    refine MJ_getA dX7_cancel_20 g_X7_30 (by decide) ?_
    refine MJ_iload_n dX7_cancel_23 rfl rfl ?_
    refine MJ_pc (pc' := 24) rfl ?_
    refine MJ_iald dX7_cancel_24 (inx_v ha3) (by decide) ?_
    refine MJ_icmp_eq (tgt := 54) dX7_cancel_25 (by decide) (fun c25 => ?_) (fun c25 => ?_)
    · refine MJ_lconst (v := 0) dX7_cancel_54 (by decide) ?_
      refine MJ_lstore dX7_cancel_55 (by decide) ?_
      refine MJ_goto (tgt := 116) dX7_cancel_57 (by decide) ?_
      refine MJ_aload_n dX7_cancel_116 rfl rfl isR_r ?_
      refine MJ_iload_n dX7_cancel_117 rfl rfl ?_
      refine MJ_iload_n dX7_cancel_118 rfl rfl ?_
      refine MJ_lload dX7_cancel_119 rfl ?_
      refine MJ_callV (mm_done hW ha (by omega)) dX7_cancel_121 ml_X7_195 mkX7_done rfl rfl rfl (Nat.le_of_ble_eq_true rfl) ⟨Nat.le_of_ble_eq_true rfl, Nat.le_of_ble_eq_true rfl⟩ (fun v121 h121 q121 => ?_)
      obtain ⟨rfl, z121⟩ := q121
      rw [z121]
      exact MJ_return dX7_cancel_124 rfl ⟨rfl, (fin 0 (by unfold cancelA; rw [if_pos (Or.inl c25)]) (by decide)).symm⟩
    · refine MJ_iload_n dX7_cancel_28 rfl rfl ?_
      refine MJ_aload_n dX7_cancel_29 rfl rfl isR_r ?_
      refine MJ_getA dX7_cancel_30 g_X7_84 (by decide) ?_
      refine MJ_iload_n dX7_cancel_33 rfl rfl ?_
      refine MJ_iald dX7_cancel_34 (inx_v ho) (by decide) ?_
      refine MJ_icmp_lt (tgt := 54) dX7_cancel_35 (by decide) (fun c35 => ?_) (fun c35 => ?_)
      · refine MJ_lconst (v := 0) dX7_cancel_54 (by decide) ?_
        refine MJ_lstore dX7_cancel_55 (by decide) ?_
        refine MJ_goto (tgt := 116) dX7_cancel_57 (by decide) ?_
        refine MJ_aload_n dX7_cancel_116 rfl rfl isR_r ?_
        refine MJ_iload_n dX7_cancel_117 rfl rfl ?_
        refine MJ_iload_n dX7_cancel_118 rfl rfl ?_
        refine MJ_lload dX7_cancel_119 rfl ?_
        refine MJ_callV (mm_done hW ha (by omega)) dX7_cancel_121 ml_X7_195 mkX7_done rfl rfl rfl (Nat.le_of_ble_eq_true rfl) ⟨Nat.le_of_ble_eq_true rfl, Nat.le_of_ble_eq_true rfl⟩ (fun v121 h121 q121 => ?_)
        obtain ⟨rfl, z121⟩ := q121
        rw [z121]
        exact MJ_return dX7_cancel_124 rfl ⟨rfl, (fin 0 (by unfold cancelA; rw [if_pos (Or.inr c35)]) (by decide)).symm⟩
      · refine MJ_iload dX7_cancel_38 rfl ?_
        refine MJ_if_lt (tgt := 60) dX7_cancel_40 (by decide) (fun c40 => ?_) (fun c40 => ((c40 (show oI _ < 0 by rw [hf]; decide))).elim)
        refine MJ_iload dX7_cancel_60 rfl ?_
        refine MJ_if_lt (tgt := 84) dX7_cancel_62 (by decide) (fun c62 => ?_) (fun c62 => ((c62 (show oI _ < 0 by rw [hf]; decide))).elim)
        refine MJ_iload_n dX7_cancel_84 rfl rfl ?_
        refine MJ_aload_n dX7_cancel_85 rfl rfl isR_r ?_
        refine MJ_getA dX7_cancel_86 g_X7_84 (by decide) ?_
        refine MJ_iload_n dX7_cancel_89 rfl rfl ?_
        refine MJ_iald dX7_cancel_90 (inx_v ho) (by decide) ?_
        refine MJ_aload_n dX7_cancel_91 rfl rfl isR_r ?_
        refine MJ_pc (pc' := 92) rfl ?_
        refine MJ_getI dX7_cancel_92 g_X7_102 ?_
        refine MJ_iadd dX7_cancel_95 ?_
        refine MJ_icmp_lt (tgt := 107) dX7_cancel_96 (by decide) (fun c96 => ?_) (fun c96 => ?_)
        · refine MJ_aload_n dX7_cancel_107 rfl rfl isR_r ?_
          refine MJ_iload_n dX7_cancel_108 rfl rfl ?_
          refine MJ_iload_n dX7_cancel_109 rfl rfl ?_
          refine MJ_iconst (v := 3) dX7_cancel_110 (by decide) ?_
          refine MJ_lconst (v := 0) dX7_cancel_111 (by decide) ?_
          refine MJ_iconst (v := -1) dX7_cancel_112 (by decide) ?_
          refine MJ_callV (mm_putRecord hW (by omega)) dX7_cancel_113 ml_X7_175 mkX7_putRecord rfl rfl rfl (Nat.le_of_ble_eq_true rfl) ⟨Nat.le_of_ble_eq_true rfl, Nat.le_of_ble_eq_true rfl⟩ (fun v113 h113 q113 => ?_)
          obtain ⟨rfl, z113⟩ := q113
          rw [z113]
          refine MJ_aload_n dX7_cancel_116 rfl rfl isR_r ?_
          refine MJ_pc (pc' := 117) rfl ?_
          refine MJ_iload_n dX7_cancel_117 rfl rfl ?_
          refine MJ_iload_n dX7_cancel_118 rfl rfl ?_
          refine MJ_lload dX7_cancel_119 rfl ?_
          refine MJ_callV (mm_done (WF1_put hW (by omega) (fun z => absurd z (by decide))) (by rw [put_nA]; exact ha) (by have := put_n hW (show nR S < 700 by omega) o (mT S 462 (tn ask)) 3 0 (-1); omega)) dX7_cancel_121 ml_X7_195 mkX7_done rfl rfl rfl (Nat.le_of_ble_eq_true rfl) ⟨Nat.le_of_ble_eq_true rfl, Nat.le_of_ble_eq_true rfl⟩ (fun v121 h121 q121 => ?_)
          obtain ⟨rfl, z121⟩ := q121
          rw [z121]
          exact MJ_return dX7_cancel_124 rfl ⟨rfl, (fin1 (by unfold cancelA; rw [if_neg (fun z => z.elim c25 c35), hf]; simp only; rw [if_neg (fun z => by rw [n_lt] at c96; rw [n_le] at z; omega)])).symm⟩
        · refine MJ_ldc2 dX7_cancel_99 ll_X7_132 ?_
          refine MJ_lstore dX7_cancel_102 (by decide) ?_
          refine MJ_goto (tgt := 116) dX7_cancel_104 (by decide) ?_
          refine MJ_aload_n dX7_cancel_116 rfl rfl isR_r ?_
          refine MJ_iload_n dX7_cancel_117 rfl rfl ?_
          refine MJ_iload_n dX7_cancel_118 rfl rfl ?_
          refine MJ_lload dX7_cancel_119 rfl ?_
          refine MJ_callV (mm_done hW ha (by omega)) dX7_cancel_121 ml_X7_195 mkX7_done rfl rfl rfl (Nat.le_of_ble_eq_true rfl) ⟨Nat.le_of_ble_eq_true rfl, Nat.le_of_ble_eq_true rfl⟩ (fun v121 h121 q121 => ?_)
          obtain ⟨rfl, z121⟩ := q121
          rw [z121]
          exact MJ_return dX7_cancel_124 rfl ⟨rfl, (fin 3 (by unfold cancelA; rw [if_neg (fun z => z.elim c25 c35), hf]; simp only; rw [if_pos (by rw [n_lt] at c96; rw [n_le]; omega)]) (by decide)).symm⟩
  | some r =>
    have hr7 := fnd_bound hW hf
    refine MJ_aload_n dX7_cancel_0 rfl rfl isR_r ?_
    refine MJ_getA dX7_cancel_1 g_X7_48 (by decide) ?_
    refine MJ_iload_n dX7_cancel_4 rfl rfl ?_
    refine MJ_iald dX7_cancel_5 (inx_v ha3) (by decide) ?_
    refine MJ_istore_n dX7_cancel_6 rfl (by decide) ?_
    refine MJ_aload_n dX7_cancel_7 rfl rfl isR_r ?_
    refine MJ_iload_n dX7_cancel_8 rfl rfl ?_
    refine MJ_iload_n dX7_cancel_9 rfl rfl ?_
    refine MJ_pc (pc' := 10) rfl ?_
    refine MJ_callV (mm_findRecord hW.1.2.2) dX7_cancel_10 ml_X7_169 mkX7_findRecord rfl rfl rfl (Nat.le_of_ble_eq_true rfl) ⟨Nat.le_of_ble_eq_true rfl, Nat.le_of_ble_eq_true rfl⟩ (fun v10 h10 q10 => ?_)
    obtain ⟨rfl, z10⟩ := q10
    rw [z10]
    rw [hf]
    refine MJ_istore dX7_cancel_13 (by decide) ?_
    refine MJ_lconst (v := 1) dX7_cancel_15 (by decide) ?_
    refine MJ_lstore dX7_cancel_16 (by decide) ?_
    refine MJ_iload_n dX7_cancel_18 rfl rfl ?_
    refine MJ_aload_n dX7_cancel_19 rfl rfl isR_r ?_
    refine MJ_getA dX7_cancel_20 g_X7_30 (by decide) ?_
    refine MJ_iload_n dX7_cancel_23 rfl rfl ?_
    refine MJ_pc (pc' := 24) rfl ?_
    refine MJ_iald dX7_cancel_24 (inx_v ha3) (by decide) ?_
    refine MJ_icmp_eq (tgt := 54) dX7_cancel_25 (by decide) (fun c25 => ?_) (fun c25 => ?_)
    · refine MJ_lconst (v := 0) dX7_cancel_54 (by decide) ?_
      refine MJ_lstore dX7_cancel_55 (by decide) ?_
      refine MJ_goto (tgt := 116) dX7_cancel_57 (by decide) ?_
      refine MJ_aload_n dX7_cancel_116 rfl rfl isR_r ?_
      refine MJ_iload_n dX7_cancel_117 rfl rfl ?_
      refine MJ_iload_n dX7_cancel_118 rfl rfl ?_
      refine MJ_lload dX7_cancel_119 rfl ?_
      refine MJ_callV (mm_done hW ha (by omega)) dX7_cancel_121 ml_X7_195 mkX7_done rfl rfl rfl (Nat.le_of_ble_eq_true rfl) ⟨Nat.le_of_ble_eq_true rfl, Nat.le_of_ble_eq_true rfl⟩ (fun v121 h121 q121 => ?_)
      obtain ⟨rfl, z121⟩ := q121
      rw [z121]
      exact MJ_return dX7_cancel_124 rfl ⟨rfl, (fin 0 (by unfold cancelA; rw [if_pos (Or.inl c25)]) (by decide)).symm⟩
    · refine MJ_iload_n dX7_cancel_28 rfl rfl ?_
      refine MJ_aload_n dX7_cancel_29 rfl rfl isR_r ?_
      refine MJ_getA dX7_cancel_30 g_X7_84 (by decide) ?_
      refine MJ_iload_n dX7_cancel_33 rfl rfl ?_
      refine MJ_iald dX7_cancel_34 (inx_v ho) (by decide) ?_
      refine MJ_icmp_lt (tgt := 54) dX7_cancel_35 (by decide) (fun c35 => ?_) (fun c35 => ?_)
      · refine MJ_lconst (v := 0) dX7_cancel_54 (by decide) ?_
        refine MJ_lstore dX7_cancel_55 (by decide) ?_
        refine MJ_goto (tgt := 116) dX7_cancel_57 (by decide) ?_
        refine MJ_aload_n dX7_cancel_116 rfl rfl isR_r ?_
        refine MJ_iload_n dX7_cancel_117 rfl rfl ?_
        refine MJ_iload_n dX7_cancel_118 rfl rfl ?_
        refine MJ_lload dX7_cancel_119 rfl ?_
        refine MJ_callV (mm_done hW ha (by omega)) dX7_cancel_121 ml_X7_195 mkX7_done rfl rfl rfl (Nat.le_of_ble_eq_true rfl) ⟨Nat.le_of_ble_eq_true rfl, Nat.le_of_ble_eq_true rfl⟩ (fun v121 h121 q121 => ?_)
        obtain ⟨rfl, z121⟩ := q121
        rw [z121]
        exact MJ_return dX7_cancel_124 rfl ⟨rfl, (fin 0 (by unfold cancelA; rw [if_pos (Or.inr c35)]) (by decide)).symm⟩
      · refine MJ_iload dX7_cancel_38 rfl ?_
        refine MJ_if_lt (tgt := 60) dX7_cancel_40 (by decide) (fun c40 => ((nI_pos (show r < 2 ^ 31 by omega) c40)).elim) (fun c40 => ?_)
        refine MJ_aload_n dX7_cancel_43 rfl rfl isR_r ?_
        refine MJ_getA dX7_cancel_44 g_X7_93 (by decide) ?_
        refine MJ_iload dX7_cancel_47 rfl ?_
        refine MJ_iald dX7_cancel_49 (inx_n (show r < 700 from hr7) (by decide)) (by decide) ?_
        refine MJ_iconst (v := 1) dX7_cancel_50 (by decide) ?_
        refine MJ_icmp_ne (tgt := 60) dX7_cancel_51 (by decide) (fun c51 => ?_) (fun c51 => ?_)
        · refine MJ_iload dX7_cancel_60 rfl ?_
          refine MJ_if_lt (tgt := 84) dX7_cancel_62 (by decide) (fun c62 => ((nI_pos (show r < 2 ^ 31 by omega) c62)).elim) (fun c62 => ?_)
          refine MJ_aload_n dX7_cancel_65 rfl rfl isR_r ?_
          refine MJ_getA dX7_cancel_66 g_X7_93 (by decide) ?_
          refine MJ_iload dX7_cancel_69 rfl ?_
          refine MJ_iald dX7_cancel_71 (inx_n (show r < 700 from hr7) (by decide)) (by decide) ?_
          refine MJ_iconst (v := 2) dX7_cancel_72 (by decide) ?_
          refine MJ_icmp_ne (tgt := 84) dX7_cancel_73 (by decide) (fun c73 => ?_) (fun c73 => ?_)
          · refine MJ_iload_n dX7_cancel_84 rfl rfl ?_
            refine MJ_aload_n dX7_cancel_85 rfl rfl isR_r ?_
            refine MJ_getA dX7_cancel_86 g_X7_84 (by decide) ?_
            refine MJ_iload_n dX7_cancel_89 rfl rfl ?_
            refine MJ_iald dX7_cancel_90 (inx_v ho) (by decide) ?_
            refine MJ_aload_n dX7_cancel_91 rfl rfl isR_r ?_
            refine MJ_getI dX7_cancel_92 g_X7_102 ?_
            refine MJ_iadd dX7_cancel_95 ?_
            refine MJ_pc (pc' := 96) rfl ?_
            refine MJ_icmp_lt (tgt := 107) dX7_cancel_96 (by decide) (fun c96 => ?_) (fun c96 => ?_)
            · refine MJ_aload_n dX7_cancel_107 rfl rfl isR_r ?_
              refine MJ_iload_n dX7_cancel_108 rfl rfl ?_
              refine MJ_iload_n dX7_cancel_109 rfl rfl ?_
              refine MJ_iconst (v := 3) dX7_cancel_110 (by decide) ?_
              refine MJ_lconst (v := 0) dX7_cancel_111 (by decide) ?_
              refine MJ_iconst (v := -1) dX7_cancel_112 (by decide) ?_
              refine MJ_callV (mm_putRecord hW (by omega)) dX7_cancel_113 ml_X7_175 mkX7_putRecord rfl rfl rfl (Nat.le_of_ble_eq_true rfl) ⟨Nat.le_of_ble_eq_true rfl, Nat.le_of_ble_eq_true rfl⟩ (fun v113 h113 q113 => ?_)
              obtain ⟨rfl, z113⟩ := q113
              rw [z113]
              refine MJ_aload_n dX7_cancel_116 rfl rfl isR_r ?_
              refine MJ_pc (pc' := 117) rfl ?_
              refine MJ_iload_n dX7_cancel_117 rfl rfl ?_
              refine MJ_iload_n dX7_cancel_118 rfl rfl ?_
              refine MJ_lload dX7_cancel_119 rfl ?_
              refine MJ_callV (mm_done (WF1_put hW (by omega) (fun z => absurd z (by decide))) (by rw [put_nA]; exact ha) (by have := put_n hW (show nR S < 700 by omega) o (mT S 462 (tn ask)) 3 0 (-1); omega)) dX7_cancel_121 ml_X7_195 mkX7_done rfl rfl rfl (Nat.le_of_ble_eq_true rfl) ⟨Nat.le_of_ble_eq_true rfl, Nat.le_of_ble_eq_true rfl⟩ (fun v121 h121 q121 => ?_)
              obtain ⟨rfl, z121⟩ := q121
              rw [z121]
              exact MJ_return dX7_cancel_124 rfl ⟨rfl, (fin1 (by unfold cancelA; rw [if_neg (fun z => z.elim c25 c35), hf]; simp only; rw [if_neg c51, if_neg c73, if_neg (fun z => by rw [n_lt] at c96; rw [n_le] at z; omega)])).symm⟩
            · refine MJ_ldc2 dX7_cancel_99 ll_X7_132 ?_
              refine MJ_lstore dX7_cancel_102 (by decide) ?_
              refine MJ_goto (tgt := 116) dX7_cancel_104 (by decide) ?_
              refine MJ_aload_n dX7_cancel_116 rfl rfl isR_r ?_
              refine MJ_iload_n dX7_cancel_117 rfl rfl ?_
              refine MJ_iload_n dX7_cancel_118 rfl rfl ?_
              refine MJ_lload dX7_cancel_119 rfl ?_
              refine MJ_callV (mm_done hW ha (by omega)) dX7_cancel_121 ml_X7_195 mkX7_done rfl rfl rfl (Nat.le_of_ble_eq_true rfl) ⟨Nat.le_of_ble_eq_true rfl, Nat.le_of_ble_eq_true rfl⟩ (fun v121 h121 q121 => ?_)
              obtain ⟨rfl, z121⟩ := q121
              rw [z121]
              exact MJ_return dX7_cancel_124 rfl ⟨rfl, (fin 3 (by unfold cancelA; rw [if_neg (fun z => z.elim c25 c35), hf]; simp only; rw [if_neg c51, if_neg c73, if_pos (by rw [n_lt] at c96; rw [n_le]; omega)]) (by decide)).symm⟩
          · refine MJ_ldc2 dX7_cancel_76 ll_X7_164 ?_
            refine MJ_lstore dX7_cancel_79 (by decide) ?_
            refine MJ_goto (tgt := 116) dX7_cancel_81 (by decide) ?_
            refine MJ_aload_n dX7_cancel_116 rfl rfl isR_r ?_
            refine MJ_iload_n dX7_cancel_117 rfl rfl ?_
            refine MJ_iload_n dX7_cancel_118 rfl rfl ?_
            refine MJ_lload dX7_cancel_119 rfl ?_
            refine MJ_callV (mm_done hW ha (by omega)) dX7_cancel_121 ml_X7_195 mkX7_done rfl rfl rfl (Nat.le_of_ble_eq_true rfl) ⟨Nat.le_of_ble_eq_true rfl, Nat.le_of_ble_eq_true rfl⟩ (fun v121 h121 q121 => ?_)
            obtain ⟨rfl, z121⟩ := q121
            rw [z121]
            exact MJ_return dX7_cancel_124 rfl ⟨rfl, (fin 2 (by unfold cancelA; rw [if_neg (fun z => z.elim c25 c35), hf]; simp only; rw [if_neg c51, if_pos c73]) (by decide)).symm⟩
        · refine MJ_lconst (v := 0) dX7_cancel_54 (by decide) ?_
          refine MJ_lstore dX7_cancel_55 (by decide) ?_
          refine MJ_goto (tgt := 116) dX7_cancel_57 (by decide) ?_
          refine MJ_aload_n dX7_cancel_116 rfl rfl isR_r ?_
          refine MJ_iload_n dX7_cancel_117 rfl rfl ?_
          refine MJ_iload_n dX7_cancel_118 rfl rfl ?_
          refine MJ_lload dX7_cancel_119 rfl ?_
          refine MJ_callV (mm_done hW ha (by omega)) dX7_cancel_121 ml_X7_195 mkX7_done rfl rfl rfl (Nat.le_of_ble_eq_true rfl) ⟨Nat.le_of_ble_eq_true rfl, Nat.le_of_ble_eq_true rfl⟩ (fun v121 h121 q121 => ?_)
          obtain ⟨rfl, z121⟩ := q121
          rw [z121]
          exact MJ_return dX7_cancel_124 rfl ⟨rfl, (fin 0 (by unfold cancelA; rw [if_neg (fun z => z.elim c25 c35), hf]; simp only; rw [if_pos c51]) (by decide)).symm⟩
theorem WF1_cancel (hW : WF1 S) {o ask : Int32} (ha : inN ask (nA S) = true) (hr : nR S + 1 < 700) : WF1 (cancelF S o ask) := by
  unfold cancelF
  split
  · exact WF1_done (WF1_put hW (by omega) (fun z => absurd z (by decide))) (by rw [put_nA]; exact ha) (by have := put_n hW (show nR S < 700 by omega) o (mT S 462 (tn ask)) 3 0 (-1); omega)
  · exact WF1_done hW ha (by omega)
end M3
end
section
section M4
variable {x : om_x} {y : om_y} {S : Ms}
theorem WF1_moved (hW : WF1 S) (sv ask a : Int32) : WF1 (movedF S sv ask a) := WF1_pJ (WF1_pJ (WF1_pT (by decide) hW))
theorem moved_T (sv ask a : Int32) {f : Nat} (h : f ≠ 467) : mT (movedF S sv ask a) f = mT S f := by
  unfold movedF
  funext i
  simp [mT_pJ, mT_pT, h]
theorem moved_I (sv ask a : Int32) (f : Nat) : mI (movedF S sv ask a) f = mI S f := by
  unfold movedF
  rfl
theorem moved_nA (sv ask a : Int32) : nA (movedF S sv ask a) = nA S := congrArg tn (moved_I sv ask a 453)
theorem moved_nR (sv ask a : Int32) : nR (movedF S sv ask a) = nR S := congrArg tn (moved_I sv ask a 476)
set_option maxRecDepth 100000 in
set_option maxHeartbeats 4000000 in
theorem change_tail {h0 : Hp} {sv o ask a : Int32} (hW : WF1 S) (hs : inN sv 4 = true) (ho : inN o 40 = true) (ha : inN ask (nA S) = true) (hac : inN a 24 = true) (hr : nR S < 700) (b : Bool) (hb2 : letF S sv ask a = b) : MJ x y h0 3 (fun z S' => z = none ∧ S' = changeF S sv o ask a) kX7_change 195 [(0, .ref y.1), (1, .int sv), (2, .int o), (3, .int ask), (4, .int a), (5, .long (mT S 462 (tn ask)).toInt64), (7, .int (6 * sv + mT S 460 (tn ask))), (8, .int (6 + sv)), (9, .int (bi b))] [] S := by
  have ha3 := hW.le300 ha
  have hb : inN (6 * sv + mT S 460 (tn ask)) 24 = true := inN_ac hs (hW.ask ha).2.2.2.1
  have hWM := WF1_moved hW sv ask a
  refine MJ_iload dX7_change_195 rfl ?_
  refine MJ_if_ne (tgt := 210) dX7_change_197 (by decide) (fun c197 => ?_) (fun c197 => ?_)
  · have e : letF S sv ask a ≠ false := fun z => c197 (bi_0.mpr (hb2.symm.trans z))
    refine MJ_aload_n dX7_change_210 rfl rfl isR_r ?_
    refine MJ_getA dX7_change_211 g_X7_63 (by decide) ?_
    refine MJ_iload_n dX7_change_214 rfl rfl ?_
    refine MJ_iconst (v := 1) dX7_change_215 (by decide) ?_
    refine MJ_zast dX7_change_216 (inx_v ha3) (by first | exact Or.inl rfl | exact Or.inr rfl) (by decide) ?_
    refine MJ_aload_n dX7_change_217 rfl rfl isR_r ?_
    refine MJ_getA dX7_change_218 g_X7_20 (by decide) ?_
    refine MJ_iload dX7_change_221 rfl ?_
    refine MJ_pc (pc' := 223) rfl ?_
    refine MJ_dup2 dX7_change_223 rfl rfl ?_
    refine MJ_lald dX7_change_224 (inx_v hac) (by decide) ?_
    refine MJ_aload_n dX7_change_225 rfl rfl isR_r ?_
    refine MJ_getA dX7_change_226 g_X7_36 (by decide) ?_
    refine MJ_iload_n dX7_change_229 rfl rfl ?_
    refine MJ_iald dX7_change_230 (inx_v ha3) (by decide) ?_
    refine MJ_iconst (v := 1) dX7_change_231 (by decide) ?_
    refine MJ_icmp_ne (tgt := 240) dX7_change_232 (by decide) (fun c232 => ?_) (fun c232 => ?_)
    · refine MJ_lload dX7_change_240 rfl ?_
      refine MJ_lneg dX7_change_242 ?_
      refine MJ_ladd dX7_change_243 ?_
      refine MJ_last dX7_change_244 (inx_v hac) (by decide) ?_
      refine MJ_aload_n dX7_change_245 rfl rfl isR_r ?_
      refine MJ_getA dX7_change_246 g_X7_20 (by decide) ?_
      refine MJ_iload dX7_change_249 rfl ?_
      refine MJ_dup2 dX7_change_251 rfl rfl ?_
      refine MJ_pc (pc' := 252) rfl ?_
      refine MJ_lald dX7_change_252 (inx_v hb) (by decide) ?_
      refine MJ_aload_n dX7_change_253 rfl rfl isR_r ?_
      refine MJ_getA dX7_change_254 g_X7_36 (by decide) ?_
      refine MJ_iload_n dX7_change_257 rfl rfl ?_
      refine MJ_iald dX7_change_258 (inx_v ha3) (by decide) ?_
      refine MJ_iconst (v := 2) dX7_change_259 (by decide) ?_
      refine MJ_icmp_ne (tgt := 268) dX7_change_260 (by decide) (fun c260 => ?_) (fun c260 => ?_)
      · refine MJ_lconst (v := 0) dX7_change_268 (by decide) ?_
        refine MJ_ladd dX7_change_269 ?_
        refine MJ_last dX7_change_270 (inx_v hb) (by decide) ?_
        have c232 : ¬ mT S 458 (tn ask) = 1 := c232
        have c260 : ¬ mT S 458 (tn ask) = 2 := c260
        refine MJ_S (S' := movedF S sv ask a) (by simp only [movedF, if_neg c232, if_neg c260] <;> rfl) ?_
        refine MJ_aload_n dX7_change_271 rfl rfl isR_r ?_
        refine MJ_getA dX7_change_272 g_X7_36 (by decide) ?_
        refine MJ_iload_n dX7_change_275 rfl rfl ?_
        refine MJ_iald dX7_change_276 (inx_v ha3) (by decide) ?_
        refine MJ_iconst (v := 3) dX7_change_277 (by decide) ?_
        refine MJ_pc (pc' := 278) rfl ?_
        refine MJ_icmp_eq (tgt := 295) dX7_change_278 (by decide) (fun c278 => ?_) (fun c278 => ?_)
        · rw [moved_T _ _ _ (by decide)] at c278
          have hlt : nA S < 300 := by
           have e2 : letF S sv ask a = true := by cases h9 : letF S sv ask a; exact absurd h9 e; rfl
           unfold letF at e2
           rw [if_neg c232, if_neg c260] at e2
           simp only [Bool.and_eq_true, decide_eq_true_eq] at e2
           have e3 := e2.2.1
           have e4 := inN_tn hW.1.1
           rw [e4.1, show (300 : Int32) = nI 300 from rfl, nI_lti e4.2.2 (by decide)] at e3
           exact e3
          have e4 := inN_tn hW.1.1
          have hltM : nA (movedF S sv ask a) < 300 := by rw [moved_nA]; exact hlt
          have haM : inN ask (nA (movedF S sv ask a)) = true := by rw [moved_nA]; exact ha
          have hrM : nR (movedF S sv ask a) < 700 := by rw [moved_nR]; exact hr
          obtain ⟨w4, n4⟩ := WF1_newAsk hWM hltM (inN_sv hs) (t := 0) (b := 0) (sv := mT (movedF S sv ask a) 461 (tn ask)) (a := mT (movedF S sv ask a) 460 (tn ask)) (by rw [moved_T _ _ _ (by decide)]; exact (hW.ask ha).2.2.2.2) (by rw [moved_T _ _ _ (by decide)]; exact (hW.ask ha).2.2.2.1) (show inN 0 6 = true by decide) (show inN 0 4 = true by decide) (kind := 1) (amt := mT (movedF S sv ask a) 462 (tn ask)) (far := ask) (fun _ => haM)
          have hk5 : inN (mI (movedF S sv ask a) 453) (nA (newAskF (movedF S sv ask a) (6 + sv) (mT (movedF S sv ask a) 461 (tn ask)) 1 (mT (movedF S sv ask a) 460 (tn ask)) 0 0 (mT (movedF S sv ask a) 462 (tn ask)) ask)) = true := by
           rw [n4, moved_nA, moved_I, e4.1]; exact inN_nIlt (Nat.lt_succ_self _) (by unfold nA; omega)
          refine MJ_aload_n dX7_change_295 rfl rfl isR_r ?_
          refine MJ_iload dX7_change_296 rfl ?_
          refine MJ_aload_n dX7_change_298 rfl rfl isR_r ?_
          refine MJ_getA dX7_change_299 g_X7_45 (by decide) ?_
          refine MJ_iload_n dX7_change_302 rfl rfl ?_
          refine MJ_iald dX7_change_303 (inx_v ha3) (by decide) ?_
          refine MJ_iconst (v := 1) dX7_change_304 (by decide) ?_
          refine MJ_aload_n dX7_change_305 rfl rfl isR_r ?_
          refine MJ_pc (pc' := 306) rfl ?_
          refine MJ_getA dX7_change_306 g_X7_42 (by decide) ?_
          refine MJ_iload_n dX7_change_309 rfl rfl ?_
          refine MJ_iald dX7_change_310 (inx_v ha3) (by decide) ?_
          refine MJ_iconst (v := 0) dX7_change_311 (by decide) ?_
          refine MJ_iconst (v := 0) dX7_change_312 (by decide) ?_
          refine MJ_aload_n dX7_change_313 rfl rfl isR_r ?_
          refine MJ_getA dX7_change_314 g_X7_48 (by decide) ?_
          refine MJ_iload_n dX7_change_317 rfl rfl ?_
          refine MJ_pc (pc' := 318) rfl ?_
          refine MJ_iald dX7_change_318 (inx_v ha3) (by decide) ?_
          refine MJ_iload_n dX7_change_319 rfl rfl ?_
          refine MJ_callV (mm_newAsk hWM (inN_sv hs) hltM) dX7_change_320 ml_X7_147 mkX7_newAsk rfl rfl rfl (Nat.le_of_ble_eq_true rfl) ⟨Nat.le_of_ble_eq_true rfl, Nat.le_of_ble_eq_true rfl⟩ (fun v320 h320 q320 => ?_)
          obtain ⟨rfl, z320⟩ := q320
          rw [z320]
          refine MJ_istore dX7_change_323 (by decide) ?_
          refine MJ_aload_n dX7_change_325 rfl rfl isR_r ?_
          refine MJ_getA dX7_change_326 g_X7_60 (by decide) ?_
          refine MJ_iload_n dX7_change_329 rfl rfl ?_
          refine MJ_iload dX7_change_330 rfl ?_
          refine MJ_pc (pc' := 332) rfl ?_
          refine MJ_iast dX7_change_332 (inx_v ha3) (by decide) ?_
          refine MJ_aload_n dX7_change_333 rfl rfl isR_r ?_
          refine MJ_iload_n dX7_change_334 rfl rfl ?_
          refine MJ_aload_n dX7_change_335 rfl rfl isR_r ?_
          refine MJ_getA dX7_change_336 g_X7_30 (by decide) ?_
          refine MJ_iload_n dX7_change_339 rfl rfl ?_
          refine MJ_iald dX7_change_340 (inx_v ha3) (by decide) ?_
          refine MJ_iconst (v := 2) dX7_change_341 (by decide) ?_
          refine MJ_pc (pc' := 342) rfl ?_
          refine MJ_lconst (v := 0) dX7_change_342 (by decide) ?_
          refine MJ_iload dX7_change_343 rfl ?_
          refine MJ_callV (mm_putRecord (WF1_pT (by decide) w4) (by rw [nR_pT, newAsk_nR]; exact hrM)) dX7_change_345 ml_X7_175 mkX7_putRecord rfl rfl rfl (Nat.le_of_ble_eq_true rfl) ⟨Nat.le_of_ble_eq_true rfl, Nat.le_of_ble_eq_true rfl⟩ (fun v345 h345 q345 => ?_)
          obtain ⟨rfl, z345⟩ := q345
          rw [z345]
          refine MJ_aload_n dX7_change_348 rfl rfl isR_r ?_
          refine MJ_iload dX7_change_349 rfl ?_
          refine MJ_iconst (v := 0) dX7_change_351 (by decide) ?_
          refine MJ_lconst (v := 0) dX7_change_352 (by decide) ?_
          refine MJ_callV (mm_send (ans := false) (WF1_put (WF1_pT (by decide) w4) (by rw [nR_pT, newAsk_nR]; exact hrM) (fun _ => by rw [nA_pT]; exact hk5)) (by rw [put_nA, nA_pT]; exact hk5)) dX7_change_353 ml_X7_151 mkX7_send rfl rfl rfl (Nat.le_of_ble_eq_true rfl) ⟨Nat.le_of_ble_eq_true rfl, Nat.le_of_ble_eq_true rfl⟩ (fun v353 h353 q353 => ?_)
          obtain ⟨rfl, z353⟩ := q353
          rw [z353]
          refine MJ_pc (pc' := 356) rfl ?_
          exact MJ_return dX7_change_356 rfl ⟨rfl, by unfold changeF; rw [if_neg e, if_neg (fun z => z c278)]; rfl⟩
        · refine MJ_aload_n dX7_change_281 rfl rfl isR_r ?_
          refine MJ_iload_n dX7_change_282 rfl rfl ?_
          refine MJ_iload_n dX7_change_283 rfl rfl ?_
          refine MJ_aload_n dX7_change_284 rfl rfl isR_r ?_
          refine MJ_getA dX7_change_285 g_X7_20 (by decide) ?_
          refine MJ_iload dX7_change_288 rfl ?_
          refine MJ_lald dX7_change_290 (inx_v hac) (by decide) ?_
          refine MJ_callV (mm_done (S := movedF S sv ask a) hWM (by rw [moved_nA]; exact ha) (by rw [moved_nR]; exact hr)) dX7_change_291 ml_X7_195 mkX7_done rfl rfl rfl (Nat.le_of_ble_eq_true rfl) ⟨Nat.le_of_ble_eq_true rfl, Nat.le_of_ble_eq_true rfl⟩ (fun v291 h291 q291 => ?_)
          obtain ⟨rfl, z291⟩ := q291
          rw [z291]
          refine MJ_pc (pc' := 294) rfl ?_
          rw [moved_T _ _ _ (by decide)] at c278
          exact MJ_return dX7_change_294 rfl ⟨rfl, by unfold changeF; rw [if_neg e, if_pos c278]⟩
      · refine MJ_lload dX7_change_263 rfl ?_
        refine MJ_goto (tgt := 269) dX7_change_265 (by decide) ?_
        refine MJ_ladd dX7_change_269 ?_
        refine MJ_last dX7_change_270 (inx_v hb) (by decide) ?_
        have c232 : ¬ mT S 458 (tn ask) = 1 := c232
        have c260 : mT S 458 (tn ask) = 2 := c260
        refine MJ_S (S' := movedF S sv ask a) (by simp only [movedF, if_neg c232, if_pos c260] <;> rfl) ?_
        refine MJ_aload_n dX7_change_271 rfl rfl isR_r ?_
        refine MJ_getA dX7_change_272 g_X7_36 (by decide) ?_
        refine MJ_iload_n dX7_change_275 rfl rfl ?_
        refine MJ_iald dX7_change_276 (inx_v ha3) (by decide) ?_
        refine MJ_iconst (v := 3) dX7_change_277 (by decide) ?_
        refine MJ_pc (pc' := 278) rfl ?_
        refine MJ_icmp_eq (tgt := 295) dX7_change_278 (by decide) (fun c278 => ((show False by rw [moved_T _ _ _ (by decide)] at c278; rw [c278] at c260; exact absurd c260 (by decide))).elim) (fun c278 => ?_)
        refine MJ_aload_n dX7_change_281 rfl rfl isR_r ?_
        refine MJ_iload_n dX7_change_282 rfl rfl ?_
        refine MJ_iload_n dX7_change_283 rfl rfl ?_
        refine MJ_aload_n dX7_change_284 rfl rfl isR_r ?_
        refine MJ_getA dX7_change_285 g_X7_20 (by decide) ?_
        refine MJ_iload dX7_change_288 rfl ?_
        refine MJ_lald dX7_change_290 (inx_v hac) (by decide) ?_
        refine MJ_callV (mm_done (S := movedF S sv ask a) hWM (by rw [moved_nA]; exact ha) (by rw [moved_nR]; exact hr)) dX7_change_291 ml_X7_195 mkX7_done rfl rfl rfl (Nat.le_of_ble_eq_true rfl) ⟨Nat.le_of_ble_eq_true rfl, Nat.le_of_ble_eq_true rfl⟩ (fun v291 h291 q291 => ?_)
        obtain ⟨rfl, z291⟩ := q291
        rw [z291]
        refine MJ_pc (pc' := 294) rfl ?_
        rw [moved_T _ _ _ (by decide)] at c278
        exact MJ_return dX7_change_294 rfl ⟨rfl, by unfold changeF; rw [if_neg e, if_pos c278]⟩
    · refine MJ_lload dX7_change_235 rfl ?_
      refine MJ_goto (tgt := 243) dX7_change_237 (by decide) ?_
      refine MJ_ladd dX7_change_243 ?_
      refine MJ_last dX7_change_244 (inx_v hac) (by decide) ?_
      refine MJ_aload_n dX7_change_245 rfl rfl isR_r ?_
      refine MJ_getA dX7_change_246 g_X7_20 (by decide) ?_
      refine MJ_iload dX7_change_249 rfl ?_
      refine MJ_dup2 dX7_change_251 rfl rfl ?_
      refine MJ_lald dX7_change_252 (inx_v hb) (by decide) ?_
      refine MJ_pc (pc' := 253) rfl ?_
      refine MJ_aload_n dX7_change_253 rfl rfl isR_r ?_
      refine MJ_getA dX7_change_254 g_X7_36 (by decide) ?_
      refine MJ_iload_n dX7_change_257 rfl rfl ?_
      refine MJ_iald dX7_change_258 (inx_v ha3) (by decide) ?_
      refine MJ_iconst (v := 2) dX7_change_259 (by decide) ?_
      refine MJ_icmp_ne (tgt := 268) dX7_change_260 (by decide) (fun c260 => ?_) (fun c260 => ((show False by have c260 : mT S 458 (tn ask) = 2 := c260; have c232 : mT S 458 (tn ask) = 1 := c232; rw [c232] at c260; exact absurd c260 (by decide))).elim)
      refine MJ_lconst (v := 0) dX7_change_268 (by decide) ?_
      refine MJ_ladd dX7_change_269 ?_
      refine MJ_last dX7_change_270 (inx_v hb) (by decide) ?_
      refine MJ_pc (pc' := 271) rfl ?_
      have c232 : mT S 458 (tn ask) = 1 := c232
      have c260 : ¬ mT S 458 (tn ask) = 2 := c260
      refine MJ_S (S' := movedF S sv ask a) (by simp only [movedF, if_pos c232, if_neg c260] <;> rfl) ?_
      refine MJ_aload_n dX7_change_271 rfl rfl isR_r ?_
      refine MJ_getA dX7_change_272 g_X7_36 (by decide) ?_
      refine MJ_iload_n dX7_change_275 rfl rfl ?_
      refine MJ_iald dX7_change_276 (inx_v ha3) (by decide) ?_
      refine MJ_iconst (v := 3) dX7_change_277 (by decide) ?_
      refine MJ_icmp_eq (tgt := 295) dX7_change_278 (by decide) (fun c278 => ((show False by rw [moved_T _ _ _ (by decide)] at c278; rw [c278] at c232; exact absurd c232 (by decide))).elim) (fun c278 => ?_)
      refine MJ_aload_n dX7_change_281 rfl rfl isR_r ?_
      refine MJ_iload_n dX7_change_282 rfl rfl ?_
      refine MJ_iload_n dX7_change_283 rfl rfl ?_
      refine MJ_pc (pc' := 284) rfl ?_
      refine MJ_aload_n dX7_change_284 rfl rfl isR_r ?_
      refine MJ_getA dX7_change_285 g_X7_20 (by decide) ?_
      refine MJ_iload dX7_change_288 rfl ?_
      refine MJ_lald dX7_change_290 (inx_v hac) (by decide) ?_
      refine MJ_callV (mm_done (S := movedF S sv ask a) hWM (by rw [moved_nA]; exact ha) (by rw [moved_nR]; exact hr)) dX7_change_291 ml_X7_195 mkX7_done rfl rfl rfl (Nat.le_of_ble_eq_true rfl) ⟨Nat.le_of_ble_eq_true rfl, Nat.le_of_ble_eq_true rfl⟩ (fun v291 h291 q291 => ?_)
      obtain ⟨rfl, z291⟩ := q291
      rw [z291]
      rw [moved_T _ _ _ (by decide)] at c278
      exact MJ_return dX7_change_294 rfl ⟨rfl, by unfold changeF; rw [if_neg e, if_pos c278]⟩
  · have e : b = false := bi_0.mp c197
    refine MJ_aload_n dX7_change_200 rfl rfl isR_r ?_
    refine MJ_iload_n dX7_change_201 rfl rfl ?_
    refine MJ_iload_n dX7_change_202 rfl rfl ?_
    refine MJ_ldc2 dX7_change_203 ll_X7_203 ?_
    refine MJ_callV (mm_done hW ha hr) dX7_change_206 ml_X7_195 mkX7_done rfl rfl rfl (Nat.le_of_ble_eq_true rfl) ⟨Nat.le_of_ble_eq_true rfl, Nat.le_of_ble_eq_true rfl⟩ (fun v206 h206 q206 => ?_)
    obtain ⟨rfl, z206⟩ := q206
    rw [z206]
    exact MJ_return dX7_change_209 rfl ⟨rfl, by unfold changeF; rw [hb2, if_pos e]⟩
set_option maxRecDepth 100000 in
set_option maxHeartbeats 4000000 in
theorem mm_change {sv o ask a : Int32} (hW : WF1 S) (hs : inN sv 4 = true) (ho : inN o 40 = true) (ha : inN ask (nA S) = true) (hac : inN a 24 = true) (hr : nR S < 700) : MM x y 3 kX7_change [.ref y.1, .int sv, .int o, .int ask, .int a] S (fun z S' => z = none ∧ S' = changeF S sv o ask a) := by
  refine MM.ofJ mkX7_change.1 (Nat.le_of_ble_eq_true rfl) fun h0 => ?_
  have ha3 := hW.le300 ha
  have hb : inN (6 * sv + mT S 460 (tn ask)) 24 = true := inN_ac hs (hW.ask ha).2.2.2.1
  refine MJ_aload_n dX7_change_0 rfl rfl isR_r ?_
  refine MJ_getA dX7_change_1 g_X7_48 (by decide) ?_
  refine MJ_iload_n dX7_change_4 rfl rfl ?_
  refine MJ_iald dX7_change_5 (inx_v ha3) (by decide) ?_
  refine MJ_i2l dX7_change_6 ?_
  refine MJ_lstore dX7_change_7 (by decide) ?_
  refine MJ_bipush (v := 6) dX7_change_9 (by decide) ?_
  refine MJ_iload_n dX7_change_11 rfl rfl ?_
  refine MJ_pc (pc' := 12) rfl ?_
  refine MJ_imul dX7_change_12 ?_
  refine MJ_aload_n dX7_change_13 rfl rfl isR_r ?_
  refine MJ_getA dX7_change_14 g_X7_42 (by decide) ?_
  refine MJ_iload_n dX7_change_17 rfl rfl ?_
  refine MJ_iald dX7_change_18 (inx_v ha3) (by decide) ?_
  refine MJ_iadd dX7_change_19 ?_
  refine MJ_istore dX7_change_20 (by decide) ?_
  refine MJ_bipush (v := 6) dX7_change_22 (by decide) ?_
  refine MJ_pc (pc' := 24) rfl ?_
  refine MJ_iload_n dX7_change_24 rfl rfl ?_
  refine MJ_iadd dX7_change_25 ?_
  refine MJ_istore dX7_change_26 (by decide) ?_
  refine MJ_iconst (v := 1) dX7_change_28 (by decide) ?_
  refine MJ_istore dX7_change_29 (by decide) ?_
  refine MJ_aload_n dX7_change_31 rfl rfl isR_r ?_
  refine MJ_getA dX7_change_32 g_X7_36 (by decide) ?_
  refine MJ_iload_n dX7_change_35 rfl rfl ?_
  refine MJ_pc (pc' := 36) rfl ?_
  refine MJ_iald dX7_change_36 (inx_v ha3) (by decide) ?_
  by_cases s37_1 : mT S 458 (tn ask) = 1
  · refine MJ_st (st' := [.int 1]) (by rw [s37_1]) ?_
    refine MJ_lsw (off := 27) (tgt := 64) dX7_change_37 (by decide) (by decide) (by decide) ?_
    refine MJ_aload_n dX7_change_64 rfl rfl isR_r ?_
    refine MJ_getA dX7_change_65 g_X7_24 (by decide) ?_
    refine MJ_iload_n dX7_change_68 rfl rfl ?_
    refine MJ_iald dX7_change_69 (inx_v ha3) (by decide) ?_
    refine MJ_iconst (v := 5) dX7_change_70 (by decide) ?_
    refine MJ_icmp_gt (tgt := 91) dX7_change_71 (by decide) (fun c71 => ?_) (fun c71 => ?_)
    · refine MJ_iconst (v := 1) dX7_change_91 (by decide) ?_
      refine MJ_goto (tgt := 96) dX7_change_92 (by decide) ?_
      refine MJ_istore dX7_change_96 (by decide) ?_
      refine MJ_goto (tgt := 195) dX7_change_98 (by decide) ?_
      exact MJ_loc _ rfl (change_tail hW hs ho ha hac hr true (by unfold letF; rw [if_pos s37_1]; rw [decide_eq_true c71]; rfl))
    · refine MJ_aload_n dX7_change_74 rfl rfl isR_r ?_
      refine MJ_aload_n dX7_change_75 rfl rfl isR_r ?_
      refine MJ_getA dX7_change_76 g_X7_20 (by decide) ?_
      refine MJ_iload dX7_change_79 rfl ?_
      refine MJ_lald dX7_change_81 (inx_v hac) (by decide) ?_
      refine MJ_lload dX7_change_82 rfl ?_
      refine MJ_ladd dX7_change_84 ?_
      refine MJ_callV (mm_mayBe) dX7_change_85 ml_X7_199 mkX7_mayBe rfl rfl rfl (Nat.le_of_ble_eq_true rfl) ⟨Nat.le_of_ble_eq_true rfl, Nat.le_of_ble_eq_true rfl⟩ (fun v85 h85 q85 => ?_)
      obtain ⟨rfl, z85⟩ := q85
      rw [z85]
      refine MJ_pc (pc' := 88) rfl ?_
      refine MJ_if_eq (tgt := 95) dX7_change_88 (by decide) (fun c88 => ?_) (fun c88 => ?_)
      · refine MJ_iconst (v := 0) dX7_change_95 (by decide) ?_
        refine MJ_istore dX7_change_96 (by decide) ?_
        refine MJ_goto (tgt := 195) dX7_change_98 (by decide) ?_
        exact MJ_loc _ rfl (change_tail hW hs ho ha hac hr false (by unfold letF; rw [if_pos s37_1, bi_0.mp c88, decide_eq_false c71]; rfl))
      · refine MJ_iconst (v := 1) dX7_change_91 (by decide) ?_
        refine MJ_goto (tgt := 96) dX7_change_92 (by decide) ?_
        refine MJ_istore dX7_change_96 (by decide) ?_
        refine MJ_goto (tgt := 195) dX7_change_98 (by decide) ?_
        exact MJ_loc _ rfl (change_tail hW hs ho ha hac hr true (by unfold letF; rw [if_pos s37_1, bi_1.mp c88, Bool.or_true]))
  -- else
  by_cases s37_2 : mT S 458 (tn ask) = 2
  · refine MJ_st (st' := [.int 2]) (by rw [s37_2]) ?_
    refine MJ_lsw (off := 64) (tgt := 101) dX7_change_37 (by decide) (by decide) (by decide) ?_
    refine MJ_iload dX7_change_101 rfl ?_
    refine MJ_iload dX7_change_103 rfl ?_
    refine MJ_icmp_eq (tgt := 142) dX7_change_105 (by decide) (fun c105 => ?_) (fun c105 => ?_)
    · refine MJ_iconst (v := 1) dX7_change_142 (by decide) ?_
      refine MJ_goto (tgt := 147) dX7_change_143 (by decide) ?_
      refine MJ_istore dX7_change_147 (by decide) ?_
      refine MJ_goto (tgt := 195) dX7_change_149 (by decide) ?_
      exact MJ_loc _ rfl (change_tail hW hs ho ha hac hr true (by unfold letF; rw [if_neg s37_1, if_pos s37_2, decide_eq_true c105]; rfl))
    · refine MJ_aload_n dX7_change_108 rfl rfl isR_r ?_
      refine MJ_aload_n dX7_change_109 rfl rfl isR_r ?_
      refine MJ_getA dX7_change_110 g_X7_20 (by decide) ?_
      refine MJ_iload dX7_change_113 rfl ?_
      refine MJ_lald dX7_change_115 (inx_v hac) (by decide) ?_
      refine MJ_lload dX7_change_116 rfl ?_
      refine MJ_lsub dX7_change_118 ?_
      refine MJ_callV (mm_mayBe) dX7_change_119 ml_X7_199 mkX7_mayBe rfl rfl rfl (Nat.le_of_ble_eq_true rfl) ⟨Nat.le_of_ble_eq_true rfl, Nat.le_of_ble_eq_true rfl⟩ (fun v119 h119 q119 => ?_)
      obtain ⟨rfl, z119⟩ := q119
      rw [z119]
      refine MJ_pc (pc' := 122) rfl ?_
      refine MJ_if_eq (tgt := 146) dX7_change_122 (by decide) (fun c122 => ?_) (fun c122 => ?_)
      · refine MJ_iconst (v := 0) dX7_change_146 (by decide) ?_
        refine MJ_istore dX7_change_147 (by decide) ?_
        refine MJ_goto (tgt := 195) dX7_change_149 (by decide) ?_
        exact MJ_loc _ rfl (change_tail hW hs ho ha hac hr false (by unfold letF; rw [if_neg s37_1, if_pos s37_2, decide_eq_false c105, bi_0.mp c122]; rfl))
      · refine MJ_aload_n dX7_change_125 rfl rfl isR_r ?_
        refine MJ_aload_n dX7_change_126 rfl rfl isR_r ?_
        refine MJ_getA dX7_change_127 g_X7_20 (by decide) ?_
        refine MJ_iload dX7_change_130 rfl ?_
        refine MJ_lald dX7_change_132 (inx_v hb) (by decide) ?_
        refine MJ_lload dX7_change_133 rfl ?_
        refine MJ_ladd dX7_change_135 ?_
        refine MJ_callV (mm_mayBe) dX7_change_136 ml_X7_199 mkX7_mayBe rfl rfl rfl (Nat.le_of_ble_eq_true rfl) ⟨Nat.le_of_ble_eq_true rfl, Nat.le_of_ble_eq_true rfl⟩ (fun v136 h136 q136 => ?_)
        obtain ⟨rfl, z136⟩ := q136
        rw [z136]
        refine MJ_pc (pc' := 139) rfl ?_
        refine MJ_if_eq (tgt := 146) dX7_change_139 (by decide) (fun c139 => ?_) (fun c139 => ?_)
        · refine MJ_iconst (v := 0) dX7_change_146 (by decide) ?_
          refine MJ_istore dX7_change_147 (by decide) ?_
          refine MJ_goto (tgt := 195) dX7_change_149 (by decide) ?_
          exact MJ_loc _ rfl (change_tail hW hs ho ha hac hr false (by unfold letF; rw [if_neg s37_1, if_pos s37_2, decide_eq_false c105, bi_0.mp c139]; simp))
        · refine MJ_iconst (v := 1) dX7_change_142 (by decide) ?_
          refine MJ_goto (tgt := 147) dX7_change_143 (by decide) ?_
          refine MJ_istore dX7_change_147 (by decide) ?_
          refine MJ_goto (tgt := 195) dX7_change_149 (by decide) ?_
          exact MJ_loc _ rfl (change_tail hW hs ho ha hac hr true (by unfold letF; rw [if_neg s37_1, if_pos s37_2, bi_1.mp c122, bi_1.mp c139]; simp))
  -- else
  refine MJ_lsw (off := 115) (tgt := 152) dX7_change_37 (by decide) (by show Op.lookupswitch.offset [(1, 27), (2, 64)] 115 _ = 115; rw [lv_osw (k := 1) s37_1 (by decide), lv_osw (k := 2) s37_2 (by decide)]; rfl) (by decide) ?_
  refine MJ_aload_n dX7_change_152 rfl rfl isR_r ?_
  refine MJ_aload_n dX7_change_153 rfl rfl isR_r ?_
  refine MJ_getA dX7_change_154 g_X7_20 (by decide) ?_
  refine MJ_iload dX7_change_157 rfl ?_
  refine MJ_lald dX7_change_159 (by first | assumption | exact inx_v (by assumption) | exact inx_n (show _ < 24 by omega) (by decide)) (by decide) ?_
  refine MJ_lload dX7_change_160 rfl ?_
  refine MJ_lsub dX7_change_162 ?_
  refine MJ_pc (pc' := 163) rfl ?_
  refine MJ_callV (mm_mayBe) dX7_change_163 ml_X7_199 mkX7_mayBe rfl rfl rfl (Nat.le_of_ble_eq_true rfl) ⟨Nat.le_of_ble_eq_true rfl, Nat.le_of_ble_eq_true rfl⟩ (fun v163 h163 q163 => ?_)
  obtain ⟨rfl, z163⟩ := q163
  rw [z163]
  refine MJ_if_eq (tgt := 192) dX7_change_166 (by decide) (fun c166 => ?_) (fun c166 => ?_)
  · refine MJ_iconst (v := 0) dX7_change_192 (by decide) ?_
    refine MJ_istore dX7_change_193 (by decide) ?_
    exact MJ_loc _ rfl (change_tail hW hs ho ha hac hr false (by unfold letF; rw [if_neg s37_1, if_neg s37_2, bi_0.mp c166]; rfl))
  · refine MJ_aload_n dX7_change_169 rfl rfl isR_r ?_
    refine MJ_getI dX7_change_170 g_X7_106 ?_
    refine MJ_sipush (v := 300) dX7_change_173 (by decide) ?_
    refine MJ_icmp_ge (tgt := 192) dX7_change_176 (by decide) (fun c176 => ?_) (fun c176 => ?_)
    · refine MJ_iconst (v := 0) dX7_change_192 (by decide) ?_
      refine MJ_istore dX7_change_193 (by decide) ?_
      exact MJ_loc _ rfl (change_tail hW hs ho ha hac hr false (by unfold letF; rw [if_neg s37_1, if_neg s37_2, decide_eq_false (fun z => by rw [n_lt] at z; rw [n_le] at c176; omega)]; simp))
    · refine MJ_aload_n dX7_change_179 rfl rfl isR_r ?_
      refine MJ_iload dX7_change_180 rfl ?_
      refine MJ_callV (mm_isUsedUp (inN_sv hs) hW.1.1) dX7_change_182 ml_X7_142 mkX7_isUsedUp rfl rfl rfl (Nat.le_of_ble_eq_true rfl) ⟨Nat.le_of_ble_eq_true rfl, Nat.le_of_ble_eq_true rfl⟩ (fun v182 h182 q182 => ?_)
      obtain ⟨rfl, z182⟩ := q182
      rw [z182]
      refine MJ_if_ne (tgt := 192) dX7_change_185 (by decide) (fun c185 => ?_) (fun c185 => ?_)
      · refine MJ_iconst (v := 0) dX7_change_192 (by decide) ?_
        refine MJ_istore dX7_change_193 (by decide) ?_
        exact MJ_loc _ rfl (change_tail hW hs ho ha hac hr false (by unfold letF; rw [if_neg s37_1, if_neg s37_2, bi_1.mp c185]; simp))
      · refine MJ_iconst (v := 1) dX7_change_188 (by decide) ?_
        refine MJ_goto (tgt := 193) dX7_change_189 (by decide) ?_
        refine MJ_istore dX7_change_193 (by decide) ?_
        exact MJ_loc _ rfl (change_tail hW hs ho ha hac hr true (by unfold letF; rw [if_neg s37_1, if_neg s37_2, bi_0.mp c185, bi_1.mp c166, decide_eq_true (by rw [n_lt]; rw [n_le] at c176; omega)]; rfl))
end M4
end
section
section M5
variable {x : om_x} {y : om_y} {S : Ms}
set_option maxRecDepth 100000 in
set_option maxHeartbeats 4000000 in
theorem work_145 {h0 : Hp} {Q : Option Value → Ms → Prop} {sv o ask : Int32} (hW : WF1 S) (hs : inN sv 4 = true) (ho : inN o 40 = true) (ha : inN ask (nA S) = true) (hr : nR S + 1 < 700) (hq : Q none (work2 S sv o ask)) : MJ x y h0 4 Q kX7_work 145 [(0, .ref y.1), (1, .int sv), (2, .int ask), (6, .int o)] [] S := by
  have ha3 := hW.le300 ha
  have hac : inN (6 * sv + mT S 459 (tn ask)) 24 = true := inN_ac hs (hW.ask ha).2.2.1
  cases hf : fnd S o (mT S 456 (tn ask)) with
  | none =>
    refine MJ_aload_n dX7_work_145 rfl rfl isR_r ?_
    refine MJ_iload dX7_work_146 rfl ?_
    refine MJ_aload_n dX7_work_148 rfl rfl isR_r ?_
    refine MJ_getA dX7_work_149 g_X7_30 (by decide) ?_
    refine MJ_iload_n dX7_work_152 rfl rfl ?_
    refine MJ_iald dX7_work_153 (inx_v ha3) (by decide) ?_
    refine MJ_callV (mm_findRecord hW.1.2.2) dX7_work_154 ml_X7_169 mkX7_findRecord rfl rfl rfl (Nat.le_of_ble_eq_true rfl) ⟨Nat.le_of_ble_eq_true rfl, Nat.le_of_ble_eq_true rfl⟩ (fun v154 h154 q154 => ?_)
    obtain ⟨rfl, z154⟩ := q154
    rw [z154]
    rw [hf]
    refine MJ_istore dX7_work_157 (by decide) ?_
    refine MJ_pc (pc' := 159) rfl ?_
    refine MJ_bipush (v := 6) dX7_work_159 (by decide) ?_
    refine MJ_iload_n dX7_work_161 rfl rfl ?_
    refine MJ_imul dX7_work_162 ?_
    refine MJ_aload_n dX7_work_163 rfl rfl isR_r ?_
    refine MJ_getA dX7_work_164 g_X7_39 (by decide) ?_
    refine MJ_iload_n dX7_work_167 rfl rfl ?_
    refine MJ_iald dX7_work_168 (inx_v ha3) (by decide) ?_
    refine MJ_iadd dX7_work_169 ?_
    refine MJ_pc (pc' := 170) rfl ?_
    refine MJ_istore dX7_work_170 (by decide) ?_
    refine MJ_iload dX7_work_172 rfl ?_
    refine MJ_if_lt (tgt := 252) dX7_work_174 (by decide) (fun c174 => ?_) (fun c174 => ((c174 (show oI none < 0 by decide))).elim)
    refine MJ_aload_n dX7_work_252 rfl rfl isR_r ?_
    refine MJ_getA dX7_work_253 g_X7_36 (by decide) ?_
    refine MJ_iload_n dX7_work_256 rfl rfl ?_
    refine MJ_iald dX7_work_257 (inx_v ha3) (by decide) ?_
    refine MJ_if_ne (tgt := 277) dX7_work_258 (by decide) (fun c258 => ?_) (fun c258 => ?_)
    · refine MJ_aload_n dX7_work_277 rfl rfl isR_r ?_
      refine MJ_getA dX7_work_278 g_X7_36 (by decide) ?_
      refine MJ_iload_n dX7_work_281 rfl rfl ?_
      refine MJ_iald dX7_work_282 (inx_v ha3) (by decide) ?_
      refine MJ_iconst (v := 4) dX7_work_283 (by decide) ?_
      refine MJ_icmp_ne (tgt := 297) dX7_work_284 (by decide) (fun c284 => ?_) (fun c284 => ?_)
      · refine MJ_aload_n dX7_work_297 rfl rfl isR_r ?_
        refine MJ_iload_n dX7_work_298 rfl rfl ?_
        refine MJ_iload dX7_work_299 rfl ?_
        refine MJ_iload_n dX7_work_301 rfl rfl ?_
        refine MJ_iload dX7_work_302 rfl ?_
        refine MJ_callV (mm_change hW hs ho ha hac (by omega)) dX7_work_304 ml_X7_191 mkX7_change rfl rfl rfl (Nat.le_of_ble_eq_true rfl) ⟨Nat.le_of_ble_eq_true rfl, Nat.le_of_ble_eq_true rfl⟩ (fun v304 h304 q304 => ?_)
        obtain ⟨rfl, z304⟩ := q304
        rw [z304]
        exact MJ_return dX7_work_307 rfl (by unfold work2 at hq; rw [hf] at hq; simp only [actF, if_neg c258, if_neg c284] at hq; exact hq)
      · refine MJ_aload_n dX7_work_287 rfl rfl isR_r ?_
        refine MJ_iload dX7_work_288 rfl ?_
        refine MJ_iload_n dX7_work_290 rfl rfl ?_
        refine MJ_callV (mm_cancel hW ho ha hr) dX7_work_291 ml_X7_187 mkX7_cancel rfl rfl rfl (Nat.le_of_ble_eq_true rfl) ⟨Nat.le_of_ble_eq_true rfl, Nat.le_of_ble_eq_true rfl⟩ (fun v291 h291 q291 => ?_)
        obtain ⟨rfl, z291⟩ := q291
        rw [z291]
        refine MJ_goto (tgt := 307) dX7_work_294 (by decide) ?_
        exact MJ_return dX7_work_307 rfl (by unfold work2 at hq; rw [hf] at hq; simp only [actF, if_neg c258, if_pos c284] at hq; exact hq)
    · refine MJ_aload_n dX7_work_261 rfl rfl isR_r ?_
      refine MJ_iload_n dX7_work_262 rfl rfl ?_
      refine MJ_iconst (v := 1) dX7_work_263 (by decide) ?_
      refine MJ_aload_n dX7_work_264 rfl rfl isR_r ?_
      refine MJ_getA dX7_work_265 g_X7_20 (by decide) ?_
      refine MJ_iload dX7_work_268 rfl ?_
      refine MJ_lald dX7_work_270 (inx_v hac) (by decide) ?_
      refine MJ_callV (mm_send (ans := true) hW ha) dX7_work_271 ml_X7_151 mkX7_send rfl rfl rfl (Nat.le_of_ble_eq_true rfl) ⟨Nat.le_of_ble_eq_true rfl, Nat.le_of_ble_eq_true rfl⟩ (fun v271 h271 q271 => ?_)
      obtain ⟨rfl, z271⟩ := q271
      rw [z271]
      refine MJ_pc (pc' := 274) rfl ?_
      refine MJ_goto (tgt := 307) dX7_work_274 (by decide) ?_
      exact MJ_return dX7_work_307 rfl (by unfold work2 at hq; rw [hf] at hq; simp only [actF, if_pos c258] at hq; exact hq)
  | some r =>
    have hr7 := fnd_bound hW hf
    have hrl := (fnd_lt hf).1
    have hidx : inx (nI r) r 700 := inx_n hr7 (by decide)
    refine MJ_aload_n dX7_work_145 rfl rfl isR_r ?_
    refine MJ_iload dX7_work_146 rfl ?_
    refine MJ_aload_n dX7_work_148 rfl rfl isR_r ?_
    refine MJ_getA dX7_work_149 g_X7_30 (by decide) ?_
    refine MJ_iload_n dX7_work_152 rfl rfl ?_
    refine MJ_iald dX7_work_153 (inx_v ha3) (by decide) ?_
    refine MJ_callV (mm_findRecord hW.1.2.2) dX7_work_154 ml_X7_169 mkX7_findRecord rfl rfl rfl (Nat.le_of_ble_eq_true rfl) ⟨Nat.le_of_ble_eq_true rfl, Nat.le_of_ble_eq_true rfl⟩ (fun v154 h154 q154 => ?_)
    obtain ⟨rfl, z154⟩ := q154
    rw [z154]
    rw [hf]
    refine MJ_istore dX7_work_157 (by decide) ?_
    refine MJ_pc (pc' := 159) rfl ?_
    refine MJ_bipush (v := 6) dX7_work_159 (by decide) ?_
    refine MJ_iload_n dX7_work_161 rfl rfl ?_
    refine MJ_imul dX7_work_162 ?_
    refine MJ_aload_n dX7_work_163 rfl rfl isR_r ?_
    refine MJ_getA dX7_work_164 g_X7_39 (by decide) ?_
    refine MJ_iload_n dX7_work_167 rfl rfl ?_
    refine MJ_iald dX7_work_168 (inx_v ha3) (by decide) ?_
    refine MJ_iadd dX7_work_169 ?_
    refine MJ_pc (pc' := 170) rfl ?_
    refine MJ_istore dX7_work_170 (by decide) ?_
    refine MJ_iload dX7_work_172 rfl ?_
    refine MJ_if_lt (tgt := 252) dX7_work_174 (by decide) (fun c174 => ((nI_pos (show r < 2 ^ 31 by omega) c174)).elim) (fun c174 => ?_)
    refine MJ_aload_n dX7_work_177 rfl rfl isR_r ?_
    refine MJ_getA dX7_work_178 g_X7_93 (by decide) ?_
    refine MJ_iload dX7_work_181 rfl ?_
    refine MJ_iald dX7_work_183 hidx (by decide) ?_
    refine MJ_iconst (v := 2) dX7_work_184 (by decide) ?_
    refine MJ_icmp_eq (tgt := 221) dX7_work_185 (by decide) (fun c185 => ?_) (fun c185 => ?_)
    · refine MJ_aload_n dX7_work_221 rfl rfl isR_r ?_
      refine MJ_getA dX7_work_222 g_X7_51 (by decide) ?_
      refine MJ_aload_n dX7_work_225 rfl rfl isR_r ?_
      refine MJ_getA dX7_work_226 g_X7_99 (by decide) ?_
      refine MJ_iload dX7_work_229 rfl ?_
      refine MJ_iald dX7_work_231 hidx (by decide) ?_
      have hown := hW.2.2.2.2.1 r hrl c185
      refine MJ_iald dX7_work_232 (inx_v (hW.le300 hown)) (by decide) ?_
      refine MJ_if_ne (tgt := 307) dX7_work_233 (by decide) (fun c233 => ?_) (fun c233 => ?_)
      · exact MJ_return dX7_work_307 rfl (by unfold work2 at hq; rw [hf] at hq; simp only [if_neg (fun z : mT S 479 r ≠ 2 => z c185), if_neg c233] at hq; exact hq)
      · refine MJ_aload_n dX7_work_236 rfl rfl isR_r ?_
        refine MJ_aload_n dX7_work_237 rfl rfl isR_r ?_
        refine MJ_getA dX7_work_238 g_X7_99 (by decide) ?_
        refine MJ_iload dX7_work_241 rfl ?_
        refine MJ_iald dX7_work_243 hidx (by decide) ?_
        refine MJ_iconst (v := 0) dX7_work_244 (by decide) ?_
        refine MJ_lconst (v := 0) dX7_work_245 (by decide) ?_
        refine MJ_callV (mm_send (ans := false) hW hown) dX7_work_246 ml_X7_151 mkX7_send rfl rfl rfl (Nat.le_of_ble_eq_true rfl) ⟨Nat.le_of_ble_eq_true rfl, Nat.le_of_ble_eq_true rfl⟩ (fun v246 h246 q246 => ?_)
        obtain ⟨rfl, z246⟩ := q246
        rw [z246]
        refine MJ_pc (pc' := 249) rfl ?_
        refine MJ_goto (tgt := 307) dX7_work_249 (by decide) ?_
        exact MJ_return dX7_work_307 rfl (by unfold work2 at hq; rw [hf] at hq; simp only [if_neg (fun z : mT S 479 r ≠ 2 => z c185), if_pos c233] at hq; exact hq)
    · refine MJ_aload_n dX7_work_188 rfl rfl isR_r ?_
      refine MJ_iload_n dX7_work_189 rfl rfl ?_
      refine MJ_iconst (v := 1) dX7_work_190 (by decide) ?_
      refine MJ_aload_n dX7_work_191 rfl rfl isR_r ?_
      refine MJ_getA dX7_work_192 g_X7_93 (by decide) ?_
      refine MJ_iload dX7_work_195 rfl ?_
      refine MJ_iald dX7_work_197 hidx (by decide) ?_
      refine MJ_iconst (v := 1) dX7_work_198 (by decide) ?_
      refine MJ_pc (pc' := 199) rfl ?_
      refine MJ_icmp_ne (tgt := 212) dX7_work_199 (by decide) (fun c199 => ?_) (fun c199 => ?_)
      · refine MJ_ldc2 dX7_work_212 ll_X7_185 ?_
        refine MJ_callV (mm_send (ans := true) hW ha) dX7_work_215 ml_X7_151 mkX7_send rfl rfl rfl (Nat.le_of_ble_eq_true rfl) ⟨Nat.le_of_ble_eq_true rfl, Nat.le_of_ble_eq_true rfl⟩ (fun v215 h215 q215 => ?_)
        obtain ⟨rfl, z215⟩ := q215
        rw [z215]
        refine MJ_goto (tgt := 307) dX7_work_218 (by decide) ?_
        exact MJ_return dX7_work_307 rfl (by unfold work2 at hq; rw [hf] at hq; simp only [if_pos (show mT S 479 r ≠ 2 from c185), if_neg c199] at hq; exact hq)
      · refine MJ_aload_n dX7_work_202 rfl rfl isR_r ?_
        refine MJ_getA dX7_work_203 g_X7_96 (by decide) ?_
        refine MJ_iload dX7_work_206 rfl ?_
        refine MJ_lald dX7_work_208 hidx (by decide) ?_
        refine MJ_goto (tgt := 215) dX7_work_209 (by decide) ?_
        refine MJ_callV (mm_send (ans := true) hW ha) dX7_work_215 ml_X7_151 mkX7_send rfl rfl rfl (Nat.le_of_ble_eq_true rfl) ⟨Nat.le_of_ble_eq_true rfl, Nat.le_of_ble_eq_true rfl⟩ (fun v215 h215 q215 => ?_)
        obtain ⟨rfl, z215⟩ := q215
        rw [z215]
        refine MJ_goto (tgt := 307) dX7_work_218 (by decide) ?_
        exact MJ_return dX7_work_307 rfl (by unfold work2 at hq; rw [hf] at hq; simp only [if_pos (show mT S 479 r ≠ 2 from c185), if_pos c199] at hq; exact hq)
theorem learnL_T (o ask : Int32) {f : Nat} (h : f ∉ [474, 475, 477, 478, 479, 481]) : mT (learnL S o ask) f = mT S f := by
  simp only [List.mem_cons, List.not_mem_nil, or_false, not_or] at h
  unfold learnL
  split
  · rw [forget_T _ _ (by simp [h]), mT_pT_ne _ _ _ (by simp [h]), mT_pT_ne _ _ _ (by simp [h])]
  · rfl
theorem learnW_T (o low : Int32) {f : Nat} (h : f ∉ [475, 477, 478, 479, 481]) : mT (learnW S o low) f = mT S f := by
  simp only [List.mem_cons, List.not_mem_nil, or_false, not_or] at h
  unfold learnW
  split
  · rw [forget_T _ _ (by simp [h]), mT_pT_ne _ _ _ (by simp [h])]
  · rfl
theorem learnL_I (o ask : Int32) {f : Nat} (h : f ≠ 476) : mI (learnL S o ask) f = mI S f := by
  unfold learnL
  split
  · rw [forget_I _ _ h, mI_pT, mI_pT]
  · rfl
theorem learnW_I (o low : Int32) {f : Nat} (h : f ≠ 476) : mI (learnW S o low) f = mI S f := by
  unfold learnW
  split
  · rw [forget_I _ _ h, mI_pT]
  · rfl
theorem WF1_learnL (hW : WF1 S) (o ask : Int32) : WF1 (learnL S o ask) ∧ nR (learnL S o ask) ≤ nR S := by
  unfold learnL
  split
  · have h1 : WF1 (pT (pT S 474 (tn o) (mT S 455 (tn ask))) 475 (tn o) 1) := WF1_pT (by decide) (WF1_pT (by decide) hW)
    refine ⟨WF1_forget h1 _ _, ?_⟩
    have h2 := (forget_n h1 o 2147483647).2.2
    rw [nR_pT, nR_pT] at h2
    exact h2
  · exact ⟨hW, Nat.le_refl _⟩
theorem WF1_learnW (hW : WF1 S) (o low : Int32) : WF1 (learnW S o low) ∧ nR (learnW S o low) ≤ nR S := by
  unfold learnW
  split
  · have h1 : WF1 (pT S 475 (tn o) low) := WF1_pT (by decide) hW
    refine ⟨WF1_forget h1 _ _, ?_⟩
    have h2 := (forget_n h1 o low).2.2
    rw [nR_pT] at h2
    exact h2
  · exact ⟨hW, Nat.le_refl _⟩
set_option maxRecDepth 100000 in
set_option maxHeartbeats 4000000 in
theorem work_123 {h0 : Hp} {Q : Option Value → Ms → Prop} {sv o ask low : Int32} {up : Bool} (hW : WF1 S) (hs : inN sv 4 = true) (ho : inN o 40 = true) (ha : inN ask (nA S) = true) (hr : nR S + 1 < 700) (hq : Q none (if up = true ∨ mT S 456 (tn ask) < mT S 475 (tn o) then S else work2 S sv o ask)) : MJ x y h0 4 Q kX7_work 123 [(0, .ref y.1), (1, .int sv), (2, .int ask), (3, .int low), (4, .int (bi up)), (6, .int o)] [] S := by
  have ha3 := hW.le300 ha
  refine MJ_iload dX7_work_123 rfl ?_
  refine MJ_if_ne (tgt := 144) dX7_work_125 (by decide) (fun c125 => ?_) (fun c125 => ?_)
  · exact MJ_return dX7_work_144 rfl (by rw [if_pos (Or.inl (bi_1.mp c125))] at hq; exact hq)
  · refine MJ_aload_n dX7_work_128 rfl rfl isR_r ?_
    refine MJ_getA dX7_work_129 g_X7_30 (by decide) ?_
    refine MJ_iload_n dX7_work_132 rfl rfl ?_
    refine MJ_iald dX7_work_133 (inx_v ha3) (by decide) ?_
    refine MJ_aload_n dX7_work_134 rfl rfl isR_r ?_
    refine MJ_getA dX7_work_135 g_X7_84 (by decide) ?_
    refine MJ_iload dX7_work_138 rfl ?_
    refine MJ_iald dX7_work_140 (inx_v ho) (by decide) ?_
    refine MJ_pc (pc' := 141) rfl ?_
    refine MJ_icmp_ge (tgt := 145) dX7_work_141 (by decide) (fun c141 => ?_) (fun c141 => ?_)
    · rw [if_neg (fun z => z.elim (fun q => by rw [bi_0.mp c125] at q; cases q) (fun q => by rw [n_lt] at q; rw [n_le] at c141; omega))] at hq
      exact MJ_loc _ rfl (work_145 hW hs ho ha hr hq)
    · exact MJ_return dX7_work_144 rfl (by rw [if_pos (Or.inr (by rw [n_lt]; rw [n_le] at c141; omega))] at hq; exact hq)
set_option maxRecDepth 100000 in
set_option maxHeartbeats 4000000 in
theorem work_95 {h0 : Hp} {Q : Option Value → Ms → Prop} {sv o ask low : Int32} {up : Bool} (hW : WF1 S) (hs : inN sv 4 = true) (ho : inN o 40 = true) (ha : inN ask (nA S) = true) (hr : nR S + 1 < 700) (hq : Q none (if up = true ∨ mT (learnW S o low) 456 (tn ask) < mT (learnW S o low) 475 (tn o) then learnW S o low else work2 (learnW S o low) sv o ask)) : MJ x y h0 4 Q kX7_work 95 [(0, .ref y.1), (1, .int sv), (2, .int ask), (3, .int low), (4, .int (bi up)), (6, .int o)] [] S := by
  have hL := WF1_learnW hW o low
  have fin : MJ x y h0 4 Q kX7_work 123 [(0, .ref y.1), (1, .int sv), (2, .int ask), (3, .int low), (4, .int (bi up)), (6, .int o)] [] (learnW S o low) := work_123 hL.1 hs ho (by rw [show nA (learnW S o low) = nA S from congrArg tn (learnW_I o low (by decide))]; exact ha) (by omega) hq
  refine MJ_iload_n dX7_work_95 rfl rfl ?_
  refine MJ_aload_n dX7_work_96 rfl rfl isR_r ?_
  refine MJ_getA dX7_work_97 g_X7_84 (by decide) ?_
  refine MJ_iload dX7_work_100 rfl ?_
  refine MJ_iald dX7_work_102 (inx_v ho) (by decide) ?_
  refine MJ_icmp_le (tgt := 123) dX7_work_103 (by decide) (fun c103 => ?_) (fun c103 => ?_)
  · rw [show learnW S o low = S by unfold learnW; rw [if_neg (fun z => by rw [n_lt] at z; rw [n_le] at c103; omega)]] at fin
    exact MJ_loc _ rfl fin
  · refine MJ_aload_n dX7_work_106 rfl rfl isR_r ?_
    refine MJ_getA dX7_work_107 g_X7_84 (by decide) ?_
    refine MJ_iload dX7_work_110 rfl ?_
    refine MJ_iload_n dX7_work_112 rfl rfl ?_
    refine MJ_iast dX7_work_113 (inx_v ho) (by decide) ?_
    refine MJ_aload_n dX7_work_114 rfl rfl isR_r ?_
    refine MJ_iload dX7_work_115 rfl ?_
    refine MJ_iload_n dX7_work_117 rfl rfl ?_
    refine MJ_pc (pc' := 118) rfl ?_
    refine MJ_callV (mm_forget hW.1.2.2) dX7_work_118 ml_X7_182 mkX7_forget rfl rfl rfl (Nat.le_of_ble_eq_true rfl) ⟨Nat.le_of_ble_eq_true rfl, Nat.le_of_ble_eq_true rfl⟩ (fun v118 h118 q118 => ?_)
    obtain ⟨rfl, z118⟩ := q118
    rw [z118]
    refine MJ_istore dX7_work_121 (by decide) ?_
    rw [show learnW S o low = forgetF (pT S 475 (tn o) low) o low by unfold learnW; rw [if_pos (by rw [n_lt]; rw [n_le] at c103; omega)]] at fin
    exact MJ_loc _ rfl fin
set_option maxRecDepth 100000 in
set_option maxHeartbeats 4000000 in
theorem mm_work {sv ask low : Int32} {up : Bool} (hW : WF1 S) (hs : inN sv 4 = true) (ha : inN ask (nA S) = true) (hr : nR S + 1 < 700) : MM x y 4 kX7_work [.ref y.1, .int sv, .int ask, .int low, .int (bi up)] S (fun z S' => z = none ∧ S' = workF S sv ask low up) := by
  refine MM.ofJ mkX7_work.1 (Nat.le_of_ble_eq_true rfl) fun h0 => ?_
  have ha3 := hW.le300 ha
  have ho : inN (10 * sv + mT S 454 (tn ask)) 40 = true := inN_of hs (hW.ask ha).1
  generalize ho2 : 10 * sv + mT S 454 (tn ask) = o at ho
  have hL := WF1_learnL hW o ask
  have hw : workF S sv ask low up = if mT S 455 (tn ask) < mT S 474 (tn o) then (if up then S else sendF S ask true (-3)) else if up = true ∨ mT (learnW (learnL S o ask) o low) 456 (tn ask) < mT (learnW (learnL S o ask) o low) 475 (tn o) then learnW (learnL S o ask) o low else work2 (learnW (learnL S o ask) o low) sv o ask := by unfold workF; rw [ho2]
  have fin : ¬ mT S 455 (tn ask) < mT S 474 (tn o) → MJ x y h0 4 (fun z S' => z = none ∧ S' = workF S sv ask low up) kX7_work 95 [(0, .ref y.1), (1, .int sv), (2, .int ask), (3, .int low), (4, .int (bi up)), (6, .int o)] [] (learnL S o ask) := fun z => work_95 hL.1 hs ho (by rw [show nA (learnL S o ask) = nA S from congrArg tn (learnL_I o ask (by decide))]; exact ha) (by omega) ⟨rfl, by rw [hw, if_neg z]⟩
  refine MJ_aload_n dX7_work_0 rfl rfl isR_r ?_
  refine MJ_getA dX7_work_1 g_X7_24 (by decide) ?_
  refine MJ_iload_n dX7_work_4 rfl rfl ?_
  refine MJ_iald dX7_work_5 (inx_v ha3) (by decide) ?_
  refine MJ_istore dX7_work_6 (by decide) ?_
  refine MJ_bipush (v := 10) dX7_work_8 (by decide) ?_
  refine MJ_iload_n dX7_work_10 rfl rfl ?_
  refine MJ_imul dX7_work_11 ?_
  refine MJ_pc (pc' := 12) rfl ?_
  refine MJ_iload dX7_work_12 rfl ?_
  refine MJ_iadd dX7_work_14 ?_
  refine MJ_st (st' := [.int o]) (by rw [← ho2]) ?_
  refine MJ_istore dX7_work_15 (by decide) ?_
  refine MJ_aload_n dX7_work_17 rfl rfl isR_r ?_
  refine MJ_getA dX7_work_18 g_X7_27 (by decide) ?_
  refine MJ_iload_n dX7_work_21 rfl rfl ?_
  refine MJ_iald dX7_work_22 (inx_v ha3) (by decide) ?_
  refine MJ_aload_n dX7_work_23 rfl rfl isR_r ?_
  refine MJ_pc (pc' := 24) rfl ?_
  refine MJ_getA dX7_work_24 g_X7_81 (by decide) ?_
  refine MJ_iload dX7_work_27 rfl ?_
  refine MJ_iald dX7_work_29 (inx_v ho) (by decide) ?_
  refine MJ_icmp_ge (tgt := 48) dX7_work_30 (by decide) (fun c30 => ?_) (fun c30 => ?_)
  · have fin := fin (fun z => by rw [n_lt] at z; rw [n_le] at c30; omega)
    refine MJ_aload_n dX7_work_48 rfl rfl isR_r ?_
    refine MJ_getA dX7_work_49 g_X7_27 (by decide) ?_
    refine MJ_iload_n dX7_work_52 rfl rfl ?_
    refine MJ_iald dX7_work_53 (inx_v ha3) (by decide) ?_
    refine MJ_aload_n dX7_work_54 rfl rfl isR_r ?_
    refine MJ_getA dX7_work_55 g_X7_81 (by decide) ?_
    refine MJ_iload dX7_work_58 rfl ?_
    refine MJ_iald dX7_work_60 (inx_v ho) (by decide) ?_
    refine MJ_pc (pc' := 61) rfl ?_
    refine MJ_icmp_le (tgt := 95) dX7_work_61 (by decide) (fun c61 => ?_) (fun c61 => ?_)
    · rw [show learnL S o ask = S by unfold learnL; rw [if_neg (fun z => by rw [n_lt] at z; rw [n_le] at c61; omega)]] at fin
      exact MJ_loc _ rfl fin
    · refine MJ_aload_n dX7_work_64 rfl rfl isR_r ?_
      refine MJ_getA dX7_work_65 g_X7_81 (by decide) ?_
      refine MJ_iload dX7_work_68 rfl ?_
      refine MJ_aload_n dX7_work_70 rfl rfl isR_r ?_
      refine MJ_getA dX7_work_71 g_X7_27 (by decide) ?_
      refine MJ_iload_n dX7_work_74 rfl rfl ?_
      refine MJ_iald dX7_work_75 (inx_v ha3) (by decide) ?_
      refine MJ_iast dX7_work_76 (inx_v ho) (by decide) ?_
      refine MJ_pc (pc' := 77) rfl ?_
      refine MJ_aload_n dX7_work_77 rfl rfl isR_r ?_
      refine MJ_getA dX7_work_78 g_X7_84 (by decide) ?_
      refine MJ_iload dX7_work_81 rfl ?_
      refine MJ_iconst (v := 1) dX7_work_83 (by decide) ?_
      refine MJ_iast dX7_work_84 (inx_v ho) (by decide) ?_
      refine MJ_aload_n dX7_work_85 rfl rfl isR_r ?_
      refine MJ_iload dX7_work_86 rfl ?_
      refine MJ_ldc dX7_work_88 lc_X7_181 ?_
      refine MJ_pc (pc' := 90) rfl ?_
      refine MJ_callV (mm_forget hW.1.2.2) dX7_work_90 ml_X7_182 mkX7_forget rfl rfl rfl (Nat.le_of_ble_eq_true rfl) ⟨Nat.le_of_ble_eq_true rfl, Nat.le_of_ble_eq_true rfl⟩ (fun v90 h90 q90 => ?_)
      obtain ⟨rfl, z90⟩ := q90
      rw [z90]
      refine MJ_istore dX7_work_93 (by decide) ?_
      rw [show learnL S o ask = forgetF (pT (pT S 474 (tn o) (mT S 455 (tn ask))) 475 (tn o) 1) o 2147483647 by unfold learnL; rw [if_pos (by rw [n_lt]; rw [n_le] at c61; omega)]] at fin
      exact MJ_loc _ rfl fin
  · refine MJ_iload dX7_work_33 rfl ?_
    refine MJ_if_ne (tgt := 47) dX7_work_35 (by decide) (fun c35 => ?_) (fun c35 => ?_)
    · exact MJ_return dX7_work_47 rfl ⟨rfl, by rw [hw, if_pos (by rw [n_lt]; rw [n_le] at c30; omega), if_pos (bi_1.mp c35)]⟩
    · refine MJ_aload_n dX7_work_38 rfl rfl isR_r ?_
      refine MJ_iload_n dX7_work_39 rfl rfl ?_
      refine MJ_iconst (v := 1) dX7_work_40 (by decide) ?_
      refine MJ_ldc2 dX7_work_41 ll_X7_179 ?_
      refine MJ_callV (mm_send (ans := true) hW ha) dX7_work_44 ml_X7_151 mkX7_send rfl rfl rfl (Nat.le_of_ble_eq_true rfl) ⟨Nat.le_of_ble_eq_true rfl, Nat.le_of_ble_eq_true rfl⟩ (fun v44 h44 q44 => ?_)
      obtain ⟨rfl, z44⟩ := q44
      rw [z44]
      exact MJ_return dX7_work_47 rfl ⟨rfl, by rw [hw, if_pos (by rw [n_lt]; rw [n_le] at c30; omega), if_neg (by rw [bi_0.mp c35]; decide)]⟩
end M5
end
section
section M6
variable {x : om_x} {y : om_y} {S : Ms}
theorem WF1_st1 (hW : WF1 S) {r : Nat} : WF1 (pT S 479 r 1) := by
  refine ⟨hW.1, hW.2.1, hW.2.2.1, hW.2.2.2.1, ?_, hW.2.2.2.2.2⟩
  intro j hj h4
  rw [mT_pT_ne _ _ _ (by decide)]
  rw [mT_pT] at h4
  split at h4
  · exact absurd h4 (by decide)
  · exact hW.2.2.2.2.1 j hj h4
set_option maxRecDepth 100000 in
set_option maxHeartbeats 4000000 in
theorem mm_thru {h0 : Hp} {Q : Option Value → Ms → Prop} {sv own : Int32} {v : Int64} (hW : WF1 S) (hs : inN sv 4 = true) (ha : inN own (nA S) = true) (hf : inN (mT S 465 (tn own)) (nA S) = true) (hq : Q none (thruF S sv own)) : MJ x y h0 2 Q kX7_through 24 [(0, .ref y.1), (1, .int sv), (2, .int own), (3, .long v)] [] S := by
  have ha3 := hW.le300 ha
  have hf3 := hW.le300 hf
  have hac : inN (6 * sv + mT S 459 (tn (mT S 465 (tn own)))) 24 = true := inN_ac hs (hW.ask hf).2.2.1
  unfold thruF at hq
  cases hfn : fnd S (10 * sv + mT S 454 (tn (mT S 465 (tn own)))) (mT S 456 (tn (mT S 465 (tn own)))) with
  | none =>
    rw [hfn] at hq
    refine MJ_aload_n dX7_through_24 rfl rfl isR_r ?_
    refine MJ_getA dX7_through_25 g_X7_57 (by decide) ?_
    refine MJ_iload_n dX7_through_28 rfl rfl ?_
    refine MJ_iald dX7_through_29 (inx_v ha3) (by decide) ?_
    refine MJ_istore dX7_through_30 (by decide) ?_
    refine MJ_aload_n dX7_through_32 rfl rfl isR_r ?_
    refine MJ_bipush (v := 10) dX7_through_33 (by decide) ?_
    refine MJ_iload_n dX7_through_35 rfl rfl ?_
    refine MJ_pc (pc' := 36) rfl ?_
    refine MJ_imul dX7_through_36 ?_
    refine MJ_aload_n dX7_through_37 rfl rfl isR_r ?_
    refine MJ_getA dX7_through_38 g_X7_24 (by decide) ?_
    refine MJ_iload dX7_through_41 rfl ?_
    refine MJ_iald dX7_through_43 (inx_v hf3) (by decide) ?_
    refine MJ_iadd dX7_through_44 ?_
    refine MJ_aload_n dX7_through_45 rfl rfl isR_r ?_
    refine MJ_getA dX7_through_46 g_X7_30 (by decide) ?_
    refine MJ_pc (pc' := 49) rfl ?_
    refine MJ_iload dX7_through_49 rfl ?_
    refine MJ_iald dX7_through_51 (inx_v hf3) (by decide) ?_
    refine MJ_callV (mm_findRecord hW.1.2.2) dX7_through_52 ml_X7_169 mkX7_findRecord rfl rfl rfl (Nat.le_of_ble_eq_true rfl) ⟨Nat.le_of_ble_eq_true rfl, Nat.le_of_ble_eq_true rfl⟩ (fun v52 h52 q52 => ?_)
    obtain ⟨rfl, z52⟩ := q52
    rw [z52]
    rw [hfn]
    refine MJ_istore dX7_through_55 (by decide) ?_
    refine MJ_iload dX7_through_57 rfl ?_
    refine MJ_if_lt (tgt := 130) dX7_through_59 (by decide) (fun c59 => ?_) (fun c59 => ((c59 (show oI none < 0 by decide))).elim)
    exact MJ_return dX7_through_130 rfl hq
  | some r =>
    rw [hfn] at hq
    simp only at hq
    have hr7 := fnd_bound hW hfn
    have hidx : inx (nI r) r 700 := inx_n hr7 (by decide)
    refine MJ_aload_n dX7_through_24 rfl rfl isR_r ?_
    refine MJ_getA dX7_through_25 g_X7_57 (by decide) ?_
    refine MJ_iload_n dX7_through_28 rfl rfl ?_
    refine MJ_iald dX7_through_29 (inx_v ha3) (by decide) ?_
    refine MJ_istore dX7_through_30 (by decide) ?_
    refine MJ_aload_n dX7_through_32 rfl rfl isR_r ?_
    refine MJ_bipush (v := 10) dX7_through_33 (by decide) ?_
    refine MJ_iload_n dX7_through_35 rfl rfl ?_
    refine MJ_pc (pc' := 36) rfl ?_
    refine MJ_imul dX7_through_36 ?_
    refine MJ_aload_n dX7_through_37 rfl rfl isR_r ?_
    refine MJ_getA dX7_through_38 g_X7_24 (by decide) ?_
    refine MJ_iload dX7_through_41 rfl ?_
    refine MJ_iald dX7_through_43 (inx_v hf3) (by decide) ?_
    refine MJ_iadd dX7_through_44 ?_
    refine MJ_aload_n dX7_through_45 rfl rfl isR_r ?_
    refine MJ_getA dX7_through_46 g_X7_30 (by decide) ?_
    refine MJ_pc (pc' := 49) rfl ?_
    refine MJ_iload dX7_through_49 rfl ?_
    refine MJ_iald dX7_through_51 (inx_v hf3) (by decide) ?_
    refine MJ_callV (mm_findRecord hW.1.2.2) dX7_through_52 ml_X7_169 mkX7_findRecord rfl rfl rfl (Nat.le_of_ble_eq_true rfl) ⟨Nat.le_of_ble_eq_true rfl, Nat.le_of_ble_eq_true rfl⟩ (fun v52 h52 q52 => ?_)
    obtain ⟨rfl, z52⟩ := q52
    rw [z52]
    rw [hfn]
    refine MJ_istore dX7_through_55 (by decide) ?_
    refine MJ_iload dX7_through_57 rfl ?_
    refine MJ_if_lt (tgt := 130) dX7_through_59 (by decide) (fun c59 => ((nI_pos (show r < 2 ^ 31 by omega) c59)).elim) (fun c59 => ?_)
    refine MJ_aload_n dX7_through_62 rfl rfl isR_r ?_
    refine MJ_getA dX7_through_63 g_X7_93 (by decide) ?_
    refine MJ_iload dX7_through_66 rfl ?_
    refine MJ_pc (pc' := 68) rfl ?_
    refine MJ_iald dX7_through_68 hidx (by decide) ?_
    refine MJ_iconst (v := 2) dX7_through_69 (by decide) ?_
    refine MJ_icmp_ne (tgt := 130) dX7_through_70 (by decide) (fun c70 => ?_) (fun c70 => ?_)
    · exact MJ_return dX7_through_130 rfl (by rw [if_neg (fun z => c70 z.1)] at hq; exact hq)
    · refine MJ_aload_n dX7_through_73 rfl rfl isR_r ?_
      refine MJ_getA dX7_through_74 g_X7_99 (by decide) ?_
      refine MJ_iload dX7_through_77 rfl ?_
      refine MJ_iald dX7_through_79 hidx (by decide) ?_
      refine MJ_iload_n dX7_through_80 rfl rfl ?_
      refine MJ_icmp_ne (tgt := 130) dX7_through_81 (by decide) (fun c81 => ?_) (fun c81 => ?_)
      · exact MJ_return dX7_through_130 rfl (by rw [if_neg (fun z => c81 z.2)] at hq; exact hq)
      · refine MJ_aload_n dX7_through_84 rfl rfl isR_r ?_
        refine MJ_getA dX7_through_85 g_X7_93 (by decide) ?_
        refine MJ_iload dX7_through_88 rfl ?_
        refine MJ_iconst (v := 1) dX7_through_90 (by decide) ?_
        refine MJ_iast dX7_through_91 hidx (by decide) ?_
        refine MJ_aload_n dX7_through_92 rfl rfl isR_r ?_
        refine MJ_getA dX7_through_93 g_X7_96 (by decide) ?_
        refine MJ_iload dX7_through_96 rfl ?_
        refine MJ_pc (pc' := 98) rfl ?_
        refine MJ_aload_n dX7_through_98 rfl rfl isR_r ?_
        refine MJ_getA dX7_through_99 g_X7_20 (by decide) ?_
        refine MJ_bipush (v := 6) dX7_through_102 (by decide) ?_
        refine MJ_iload_n dX7_through_104 rfl rfl ?_
        refine MJ_imul dX7_through_105 ?_
        refine MJ_aload_n dX7_through_106 rfl rfl isR_r ?_
        refine MJ_getA dX7_through_107 g_X7_39 (by decide) ?_
        refine MJ_iload dX7_through_110 rfl ?_
        refine MJ_pc (pc' := 112) rfl ?_
        refine MJ_iald dX7_through_112 (inx_v hf3) (by decide) ?_
        refine MJ_iadd dX7_through_113 ?_
        rw [mT_pT_ne _ _ _ (show (459 : Nat) ≠ 479 by decide)]
        refine MJ_lald dX7_through_114 (inx_v hac) (by decide) ?_
        rw [mJ_pT]
        refine MJ_last dX7_through_115 hidx (by decide) ?_
        refine MJ_aload_n dX7_through_116 rfl rfl isR_r ?_
        refine MJ_iload dX7_through_117 rfl ?_
        refine MJ_iconst (v := 1) dX7_through_119 (by decide) ?_
        refine MJ_aload_n dX7_through_120 rfl rfl isR_r ?_
        refine MJ_pc (pc' := 121) rfl ?_
        refine MJ_getA dX7_through_121 g_X7_96 (by decide) ?_
        refine MJ_iload dX7_through_124 rfl ?_
        refine MJ_lald dX7_through_126 hidx (by decide) ?_
        rw [mJ_pJ, if_pos ⟨rfl, rfl⟩]
        refine MJ_callV (mm_send (ans := true) (WF1_pJ (WF1_st1 hW)) (by rw [nA_pJ, nA_pT]; exact hf)) dX7_through_127 ml_X7_151 mkX7_send rfl rfl rfl (Nat.le_of_ble_eq_true rfl) ⟨Nat.le_of_ble_eq_true rfl, Nat.le_of_ble_eq_true rfl⟩ (fun v127 h127 q127 => ?_)
        obtain ⟨rfl, z127⟩ := q127
        rw [z127]
        exact MJ_return dX7_through_130 rfl (by rw [if_pos ⟨c70, c81⟩] at hq; exact hq)
set_option maxRecDepth 100000 in
set_option maxHeartbeats 4000000 in
theorem mm_through {sv own : Int32} {v : Int64} (hW : WF1 S) (hs : inN sv 4 = true) (ha : inN own (nA S) = true) (hf : inN (mT S 465 (tn own)) (nA S) = true) : MM x y 2 kX7_through [.ref y.1, .int sv, .int own, .long v] S (fun z S' => z = none ∧ S' = throughF S sv own v) := by
  refine MM.ofJ mkX7_through.1 (Nat.le_of_ble_eq_true rfl) fun h0 => ?_
  have ha3 := hW.le300 ha
  have hW1 : WF1 (pJ (pT S 463 (tn own) 1) 464 (tn own) v) := WF1_pJ (WF1_pT (by decide) hW)
  have e2 : mT (pJ (pT S 463 (tn own) 1) 464 (tn own) v) 465 (tn own) = mT S 465 (tn own) := by rw [mT_pJ, mT_pT_ne _ _ _ (by decide)]
  have fin : ¬ mT S 463 (tn own) ≠ 0 → MJ x y h0 2 (fun z S' => z = none ∧ S' = throughF S sv own v) kX7_through 24 [(0, .ref y.1), (1, .int sv), (2, .int own), (3, .long v)] [] (pJ (pT S 463 (tn own) 1) 464 (tn own) v) := fun z => mm_thru hW1 hs (by rw [nA_pJ, nA_pT]; exact ha) (by rw [e2, nA_pJ, nA_pT]; exact hf) ⟨rfl, by unfold throughF; rw [if_neg z]⟩
  refine MJ_aload_n dX7_through_0 rfl rfl isR_r ?_
  refine MJ_getA dX7_through_1 g_X7_51 (by decide) ?_
  refine MJ_iload_n dX7_through_4 rfl rfl ?_
  refine MJ_iald dX7_through_5 (inx_v ha3) (by decide) ?_
  refine MJ_if_eq (tgt := 10) dX7_through_6 (by decide) (fun c6 => ?_) (fun c6 => ?_)
  · refine MJ_aload_n dX7_through_10 rfl rfl isR_r ?_
    refine MJ_getA dX7_through_11 g_X7_51 (by decide) ?_
    refine MJ_iload_n dX7_through_14 rfl rfl ?_
    refine MJ_iconst (v := 1) dX7_through_15 (by decide) ?_
    refine MJ_iast dX7_through_16 (inx_v ha3) (by decide) ?_
    refine MJ_aload_n dX7_through_17 rfl rfl isR_r ?_
    refine MJ_getA dX7_through_18 g_X7_54 (by decide) ?_
    refine MJ_iload_n dX7_through_21 rfl rfl ?_
    refine MJ_pc (pc' := 22) rfl ?_
    refine MJ_lload_n dX7_through_22 rfl rfl ?_
    refine MJ_last dX7_through_23 (inx_v ha3) (by decide) ?_
    exact MJ_loc _ rfl (fin (fun z => z c6))
  · exact MJ_return dX7_through_9 rfl ⟨rfl, by unfold throughF; rw [if_pos c6]⟩
def comesT (S : Ms) (e moment : Int32) : Ms := if moment < 3 then pI (pT (pI S 485 0) 449 (tn e) 1) 484 (mI S 484 + 1) else pI S 485 0
set_option maxRecDepth 100000 in
set_option maxHeartbeats 4000000 in
theorem comes_190 {h0 : Hp} {Q : Option Value → Ms → Prop} {e moment : Int32} (he : inN e 10 = true) (hq : Q none (comesT S e moment)) : MJ x y h0 5 Q kX7_comes 190 [(0, .ref y.1), (7, .int moment), (8, .int e)] [] S := by
  unfold comesT at hq
  refine MJ_aload_n dX7_comes_190 rfl rfl isR_r ?_
  refine MJ_iconst (v := 0) dX7_comes_191 (by decide) ?_
  refine MJ_putZ dX7_comes_192 p_X7_117 (by first | exact Or.inl rfl | exact Or.inr rfl) ?_
  refine MJ_iload dX7_comes_195 rfl ?_
  refine MJ_iconst (v := 3) dX7_comes_197 (by decide) ?_
  refine MJ_icmp_ge (tgt := 219) dX7_comes_198 (by decide) (fun c198 => ?_) (fun c198 => ?_)
  · exact MJ_return dX7_comes_219 rfl (by rw [if_neg (fun z => by rw [n_lt] at z; rw [n_le] at c198; omega)] at hq; exact hq)
  · refine MJ_aload_n dX7_comes_201 rfl rfl isR_r ?_
    refine MJ_getA dX7_comes_202 g_X7_7 (by decide) ?_
    refine MJ_iload dX7_comes_205 rfl ?_
    refine MJ_iconst (v := 1) dX7_comes_207 (by decide) ?_
    refine MJ_zast dX7_comes_208 (inx_v he) (by first | exact Or.inl rfl | exact Or.inr rfl) (by decide) ?_
    refine MJ_aload_n dX7_comes_209 rfl rfl isR_r ?_
    refine MJ_dup dX7_comes_210 rfl ?_
    refine MJ_getI dX7_comes_211 g_X7_215 ?_
    refine MJ_pc (pc' := 214) rfl ?_
    refine MJ_iconst (v := 1) dX7_comes_214 (by decide) ?_
    refine MJ_iadd dX7_comes_215 ?_
    refine MJ_putI dX7_comes_216 p_X7_215 ?_
    exact MJ_return dX7_comes_219 rfl (by rw [if_pos (by rw [n_lt]; rw [n_le] at c198; omega)] at hq; exact hq)
set_option maxRecDepth 100000 in
set_option maxHeartbeats 4000000 in
theorem comes_67 {h0 : Hp} {Q : Option Value → Ms → Prop} {ask low e moment : Int32} {v : Int64} {ans bent does : Bool} (hW : WF1 S) (ha : inN ask (nA S) = true) (hr : nR S + 1 < 700) (he2 : endOfL S ask ans = e) (he : inN e 10 = true) (hd : does = decide (0 < moment ∧ bent = false)) (hq : Q none (comesT (comes1 S ask ans low v bent moment) e moment)) : MJ x y h0 5 Q kX7_comes 67 [(0, .ref y.1), (1, .int ask), (2, .int (bi ans)), (3, .int low), (4, .long v), (7, .int moment), (8, .int e), (9, .int (bi does))] [] S := by
  have ha3 := hW.le300 ha
  have hsv := (hW.ask ha).2.1
  unfold comes1 at hq
  have fin : ∀ {S' : Ms}, Q none (comesT S' e moment) → MJ x y h0 5 Q kX7_comes 190 [(0, .ref y.1), (7, .int moment), (8, .int e)] [] S' := fun z => comes_190 he z
  cases does with
  | false =>
    have d0 : ¬ (0 < moment ∧ bent = false) := fun z => by rw [decide_eq_true z] at hd; cases hd
    rw [if_pos d0] at hq
    refine MJ_iload dX7_comes_67 rfl ?_
    refine MJ_if_eq (tgt := 102) dX7_comes_69 (by decide) (fun c69 => ?_) (fun c69 => ((c69 rfl)).elim)
    refine MJ_iload dX7_comes_102 rfl ?_
    refine MJ_if_eq (tgt := 134) dX7_comes_104 (by decide) (fun c104 => ?_) (fun c104 => ((c104 rfl)).elim)
    refine MJ_iload dX7_comes_134 rfl ?_
    refine MJ_if_eq (tgt := 190) dX7_comes_136 (by decide) (fun c136 => ?_) (fun c136 => ((c136 rfl)).elim)
    exact MJ_loc _ rfl (fin hq)
  | true =>
    have d1 : (0 < moment ∧ bent = false) := of_decide_eq_true hd.symm
    rw [if_neg (fun z => z d1)] at hq
    cases ans with
    | false =>
      rw [if_pos rfl] at hq
      cases hup : decide (moment = 1) with
      | false =>
        rw [hup] at hq
        refine MJ_iload dX7_comes_67 rfl ?_
        refine MJ_if_eq (tgt := 102) dX7_comes_69 (by decide) (fun c69 => ((show False from absurd c69 (by decide))).elim) (fun c69 => ?_)
        refine MJ_iload_n dX7_comes_72 rfl rfl ?_
        refine MJ_if_ne (tgt := 102) dX7_comes_73 (by decide) (fun c73 => ((c73 rfl)).elim) (fun c73 => ?_)
        refine MJ_aload_n dX7_comes_76 rfl rfl isR_r ?_
        refine MJ_aload_n dX7_comes_77 rfl rfl isR_r ?_
        refine MJ_getA dX7_comes_78 g_X7_33 (by decide) ?_
        refine MJ_iload_n dX7_comes_81 rfl rfl ?_
        refine MJ_iald dX7_comes_82 (inx_v ha3) (by decide) ?_
        refine MJ_iload_n dX7_comes_83 rfl rfl ?_
        refine MJ_pc (pc' := 84) rfl ?_
        refine MJ_iload_n dX7_comes_84 rfl rfl ?_
        refine MJ_iload dX7_comes_85 rfl ?_
        refine MJ_iconst (v := 1) dX7_comes_87 (by decide) ?_
        refine MJ_icmp_ne (tgt := 95) dX7_comes_88 (by decide) (fun c88 => ?_) (fun c88 => ((of_decide_eq_false hup c88)).elim)
        refine MJ_iconst (v := 0) dX7_comes_95 (by decide) ?_
        refine MJ_callV (mm_work (up := false) hW hsv ha hr) dX7_comes_96 ml_X7_205 mkX7_work rfl rfl rfl (Nat.le_of_ble_eq_true rfl) ⟨Nat.le_of_ble_eq_true rfl, Nat.le_of_ble_eq_true rfl⟩ (fun v96 h96 q96 => ?_)
        obtain ⟨rfl, z96⟩ := q96
        rw [z96]
        refine MJ_goto (tgt := 190) dX7_comes_99 (by decide) ?_
        exact MJ_loc _ rfl (fin hq)
      | true =>
        rw [hup] at hq
        refine MJ_iload dX7_comes_67 rfl ?_
        refine MJ_if_eq (tgt := 102) dX7_comes_69 (by decide) (fun c69 => ((show False from absurd c69 (by decide))).elim) (fun c69 => ?_)
        refine MJ_iload_n dX7_comes_72 rfl rfl ?_
        refine MJ_if_ne (tgt := 102) dX7_comes_73 (by decide) (fun c73 => ((c73 rfl)).elim) (fun c73 => ?_)
        refine MJ_aload_n dX7_comes_76 rfl rfl isR_r ?_
        refine MJ_aload_n dX7_comes_77 rfl rfl isR_r ?_
        refine MJ_getA dX7_comes_78 g_X7_33 (by decide) ?_
        refine MJ_iload_n dX7_comes_81 rfl rfl ?_
        refine MJ_iald dX7_comes_82 (inx_v ha3) (by decide) ?_
        refine MJ_iload_n dX7_comes_83 rfl rfl ?_
        refine MJ_pc (pc' := 84) rfl ?_
        refine MJ_iload_n dX7_comes_84 rfl rfl ?_
        refine MJ_iload dX7_comes_85 rfl ?_
        refine MJ_iconst (v := 1) dX7_comes_87 (by decide) ?_
        refine MJ_icmp_ne (tgt := 95) dX7_comes_88 (by decide) (fun c88 => ((c88 (of_decide_eq_true hup))).elim) (fun c88 => ?_)
        refine MJ_iconst (v := 1) dX7_comes_91 (by decide) ?_
        refine MJ_goto (tgt := 96) dX7_comes_92 (by decide) ?_
        refine MJ_callV (mm_work (up := true) hW hsv ha hr) dX7_comes_96 ml_X7_205 mkX7_work rfl rfl rfl (Nat.le_of_ble_eq_true rfl) ⟨Nat.le_of_ble_eq_true rfl, Nat.le_of_ble_eq_true rfl⟩ (fun v96 h96 q96 => ?_)
        obtain ⟨rfl, z96⟩ := q96
        rw [z96]
        refine MJ_goto (tgt := 190) dX7_comes_99 (by decide) ?_
        exact MJ_loc _ rfl (fin hq)
    | true =>
      rw [if_neg (fun z => by cases z)] at hq
      have e1 : mT S 454 (tn ask) = e := he2
      rw [e1] at hq
      by_cases h5 : 5 < e
      · have h465 : inN (mT S 465 (tn ask)) (nA S) = true := hW.2.2.2.2.2 _ (inN_tn ha).2.1 (by rw [e1]; exact h5)
        have he6 : inN (e - 6) 4 = true := by
          obtain ⟨q1, q2, q3⟩ := inN_tn he
          have z := h5
          rw [q1] at z ⊢
          rw [show (5 : Int32) = nI 5 from rfl, nI_lti (by decide) (by omega)] at z
          rw [show (6 : Int32) = nI 6 from rfl, nI_sub (by omega)]
          exact inN_nIlt (by omega) (by decide)
        rw [if_pos h5] at hq
        refine MJ_iload dX7_comes_67 rfl ?_
        refine MJ_if_eq (tgt := 102) dX7_comes_69 (by decide) (fun c69 => ((show False from absurd c69 (by decide))).elim) (fun c69 => ?_)
        refine MJ_iload_n dX7_comes_72 rfl rfl ?_
        refine MJ_if_ne (tgt := 102) dX7_comes_73 (by decide) (fun c73 => ?_) (fun c73 => ((show False from absurd c73 (by decide))).elim)
        refine MJ_iload dX7_comes_102 rfl ?_
        refine MJ_if_eq (tgt := 134) dX7_comes_104 (by decide) (fun c104 => ((show False from absurd c104 (by decide))).elim) (fun c104 => ?_)
        refine MJ_iload dX7_comes_107 rfl ?_
        refine MJ_iconst (v := 5) dX7_comes_109 (by decide) ?_
        refine MJ_icmp_le (tgt := 134) dX7_comes_110 (by decide) (fun c110 => ((show False by rw [n_lt] at h5; rw [n_le] at c110; omega)).elim) (fun c110 => ?_)
        refine MJ_iload dX7_comes_113 rfl ?_
        refine MJ_iconst (v := 1) dX7_comes_115 (by decide) ?_
        refine MJ_icmp_le (tgt := 134) dX7_comes_116 (by decide) (fun c116 => ?_) (fun c116 => ?_)
        · refine MJ_iload dX7_comes_134 rfl ?_
          refine MJ_if_eq (tgt := 190) dX7_comes_136 (by decide) (fun c136 => ((show False from absurd c136 (by decide))).elim) (fun c136 => ?_)
          refine MJ_iload dX7_comes_139 rfl ?_
          refine MJ_bipush (v := 6) dX7_comes_141 (by decide) ?_
          refine MJ_icmp_ge (tgt := 190) dX7_comes_143 (by decide) (fun c143 => ?_) (fun c143 => ((c143 (by rw [n_le]; rw [n_lt] at h5; have h61 : (6 : Int32).toInt = 6 := (by decide); have h51 : (5 : Int32).toInt = 5 := (by decide); omega))).elim)
          rw [if_neg (fun z => by rw [n_lt] at z; rw [n_le] at c116; omega)] at hq
          exact MJ_loc _ rfl (fin hq)
        · refine MJ_aload_n dX7_comes_119 rfl rfl isR_r ?_
          refine MJ_iload dX7_comes_120 rfl ?_
          refine MJ_bipush (v := 6) dX7_comes_122 (by decide) ?_
          refine MJ_isub dX7_comes_124 ?_
          refine MJ_iload_n dX7_comes_125 rfl rfl ?_
          refine MJ_lload dX7_comes_126 rfl ?_
          refine MJ_callV (mm_through hW he6 ha h465) dX7_comes_128 ml_X7_209 mkX7_through rfl rfl rfl (Nat.le_of_ble_eq_true rfl) ⟨Nat.le_of_ble_eq_true rfl, Nat.le_of_ble_eq_true rfl⟩ (fun v128 h128 q128 => ?_)
          obtain ⟨rfl, z128⟩ := q128
          rw [z128]
          refine MJ_goto (tgt := 190) dX7_comes_131 (by decide) ?_
          rw [if_pos (by rw [n_lt]; rw [n_le] at c116; omega)] at hq
          exact MJ_loc _ rfl (fin hq)
      · rw [if_neg h5] at hq
        unfold hearF at hq
        refine MJ_iload dX7_comes_67 rfl ?_
        refine MJ_if_eq (tgt := 102) dX7_comes_69 (by decide) (fun c69 => ((show False from absurd c69 (by decide))).elim) (fun c69 => ?_)
        refine MJ_iload_n dX7_comes_72 rfl rfl ?_
        refine MJ_if_ne (tgt := 102) dX7_comes_73 (by decide) (fun c73 => ?_) (fun c73 => ((show False from absurd c73 (by decide))).elim)
        refine MJ_iload dX7_comes_102 rfl ?_
        refine MJ_if_eq (tgt := 134) dX7_comes_104 (by decide) (fun c104 => ((show False from absurd c104 (by decide))).elim) (fun c104 => ?_)
        refine MJ_iload dX7_comes_107 rfl ?_
        refine MJ_iconst (v := 5) dX7_comes_109 (by decide) ?_
        refine MJ_icmp_le (tgt := 134) dX7_comes_110 (by decide) (fun c110 => ?_) (fun c110 => ((show False by rw [n_lt] at h5; rw [n_le] at c110; omega)).elim)
        refine MJ_iload dX7_comes_134 rfl ?_
        refine MJ_if_eq (tgt := 190) dX7_comes_136 (by decide) (fun c136 => ((show False from absurd c136 (by decide))).elim) (fun c136 => ?_)
        refine MJ_iload dX7_comes_139 rfl ?_
        refine MJ_bipush (v := 6) dX7_comes_141 (by decide) ?_
        refine MJ_pc (pc' := 143) rfl ?_
        refine MJ_icmp_ge (tgt := 190) dX7_comes_143 (by decide) (fun c143 => ((show False by rw [n_lt] at h5; rw [n_le] at c143; have h61 : (6 : Int32).toInt = 6 := (by decide); have h51 : (5 : Int32).toInt = 5 := (by decide); omega)).elim) (fun c143 => ?_)
        refine MJ_aload_n dX7_comes_146 rfl rfl isR_r ?_
        refine MJ_getA dX7_comes_147 g_X7_51 (by decide) ?_
        refine MJ_iload_n dX7_comes_150 rfl rfl ?_
        refine MJ_iald dX7_comes_151 (inx_v ha3) (by decide) ?_
        refine MJ_if_ne (tgt := 190) dX7_comes_152 (by decide) (fun c152 => ?_) (fun c152 => ?_)
        · rw [if_neg c152] at hq
          exact MJ_loc _ rfl (fin hq)
        · refine MJ_aload_n dX7_comes_155 rfl rfl isR_r ?_
          refine MJ_getA dX7_comes_156 g_X7_51 (by decide) ?_
          refine MJ_iload_n dX7_comes_159 rfl rfl ?_
          refine MJ_lload dX7_comes_160 rfl ?_
          refine MJ_ldc2 dX7_comes_162 ll_X7_179 ?_
          refine MJ_lcmp dX7_comes_165 ?_
          refine MJ_if_ne (tgt := 180) dX7_comes_166 (by decide) (fun c166 => ?_) (fun c166 => ?_)
          · refine MJ_iconst (v := 1) dX7_comes_180 (by decide) ?_
            refine MJ_iast dX7_comes_181 (inx_v ha3) (by decide) ?_
            refine MJ_aload_n dX7_comes_182 rfl rfl isR_r ?_
            refine MJ_getA dX7_comes_183 g_X7_54 (by decide) ?_
            refine MJ_iload_n dX7_comes_186 rfl rfl ?_
            refine MJ_lload dX7_comes_187 rfl ?_
            refine MJ_last dX7_comes_189 (inx_v ha3) (by decide) ?_
            rw [if_pos c152, if_neg (fun z => c166 ((lg_cmp_eq _ _).mpr z.1))] at hq
            exact MJ_loc _ rfl (fin hq)
          · refine MJ_aload_n dX7_comes_169 rfl rfl isR_r ?_
            refine MJ_getI dX7_comes_170 g_X7_212 ?_
            refine MJ_if_eq (tgt := 180) dX7_comes_173 (by decide) (fun c173 => ?_) (fun c173 => ?_)
            · refine MJ_iconst (v := 1) dX7_comes_180 (by decide) ?_
              refine MJ_iast dX7_comes_181 (inx_v ha3) (by decide) ?_
              refine MJ_aload_n dX7_comes_182 rfl rfl isR_r ?_
              refine MJ_getA dX7_comes_183 g_X7_54 (by decide) ?_
              refine MJ_iload_n dX7_comes_186 rfl rfl ?_
              refine MJ_lload dX7_comes_187 rfl ?_
              refine MJ_last dX7_comes_189 (inx_v ha3) (by decide) ?_
              rw [if_pos c152, if_neg (fun z => z.2 c173)] at hq
              exact MJ_loc _ rfl (fin hq)
            · refine MJ_iconst (v := 2) dX7_comes_176 (by decide) ?_
              refine MJ_goto (tgt := 181) dX7_comes_177 (by decide) ?_
              refine MJ_iast dX7_comes_181 (inx_v ha3) (by decide) ?_
              refine MJ_aload_n dX7_comes_182 rfl rfl isR_r ?_
              refine MJ_getA dX7_comes_183 g_X7_54 (by decide) ?_
              refine MJ_iload_n dX7_comes_186 rfl rfl ?_
              refine MJ_lload dX7_comes_187 rfl ?_
              refine MJ_last dX7_comes_189 (inx_v ha3) (by decide) ?_
              rw [if_pos c152, if_pos ⟨(lg_cmp_eq _ _).mp c166, c173⟩] at hq
              exact MJ_loc _ rfl (fin hq)
theorem inN_end (hW : WF1 S) {ask : Int32} (ha : inN ask (nA S) = true) (ans : Bool) : inN (endOfL S ask ans) 10 = true := by
  unfold endOfL
  split
  · exact (hW.ask ha).1
  · exact inN_sv (hW.ask ha).2.1
set_option maxRecDepth 100000 in
set_option maxHeartbeats 4000000 in
theorem mm_comes {ask low moment : Int32} {v : Int64} {ans bent : Bool} (hW : WF1 S) (ha : inN ask (nA S) = true) (hr : nR S + 1 < 700) : MM x y 5 kX7_comes [.ref y.1, .int ask, .int (bi ans), .int low, .long v, .int (bi bent), .int moment] S (fun z S' => z = none ∧ S' = comesF S ask ans low v bent moment) := by
  refine MM.ofJ mkX7_comes.1 (Nat.le_of_ble_eq_true rfl) fun h0 => ?_
  have ha3 := hW.le300 ha
  have he := inN_end hW ha ans
  generalize he2 : endOfL S ask ans = e at he
  have hcf : comesF S ask ans low v bent moment = if mT S 449 (tn e) ≠ 0 then S else comesT (comes1 (pI S 485 (bi (decide (moment < 3)))) ask ans low v bent moment) e moment := by
    unfold comesF comesT
    rw [he2]
    rfl
  have fin : ∀ does, does = decide (0 < moment ∧ bent = false) → mT S 449 (tn e) = 0 → MJ x y h0 5 (fun z S' => z = none ∧ S' = comesF S ask ans low v bent moment) kX7_comes 67 [(0, .ref y.1), (1, .int ask), (2, .int (bi ans)), (3, .int low), (4, .long v), (7, .int moment), (8, .int e), (9, .int (bi does))] [] (pI S 485 (bi (decide (moment < 3)))) := fun does hd z =>
    comes_67 (WF1_pI (by decide) hW) (by rw [nA_pI (by decide)]; exact ha) (by rw [nR_pI (by decide)]; exact hr) (by rw [← he2]; rfl) he hd ⟨rfl, by rw [hcf, if_neg (fun q => q z)]⟩
  have tail22 : MJ x y h0 5 (fun z S' => z = none ∧ S' = comesF S ask ans low v bent moment) kX7_comes 22 [(0, .ref y.1), (1, .int ask), (2, .int (bi ans)), (3, .int low), (4, .long v), (6, .int (bi bent)), (7, .int moment)] [.int e] S := by
    refine MJ_istore dX7_comes_22 (by decide) ?_
    refine MJ_aload_n dX7_comes_24 rfl rfl isR_r ?_
    refine MJ_getA dX7_comes_25 g_X7_7 (by decide) ?_
    refine MJ_iload dX7_comes_28 rfl ?_
    refine MJ_zald dX7_comes_30 (inx_v he) (by decide) ?_
    refine MJ_if_eq (tgt := 35) dX7_comes_31 (by decide) (fun c31 => ?_) (fun c31 => ?_)
    · refine MJ_aload_n dX7_comes_35 rfl rfl isR_r ?_
      refine MJ_iload dX7_comes_36 rfl ?_
      refine MJ_iconst (v := 3) dX7_comes_38 (by decide) ?_
      refine MJ_icmp_ge (tgt := 46) dX7_comes_39 (by decide) (fun c39 => ?_) (fun c39 => ?_)
      · refine MJ_iconst (v := 0) dX7_comes_46 (by decide) ?_
        have e3 : bi (decide (moment < 3)) = 0 := by rw [decide_eq_false (fun z => by rw [n_lt] at z; rw [n_le] at c39; omega)]; rfl
        rw [← e3]
        refine MJ_putZ dX7_comes_47 p_X7_117 bi_01 ?_
        refine MJ_iload dX7_comes_50 rfl ?_
        refine MJ_if_le (tgt := 64) dX7_comes_52 (by decide) (fun c52 => ?_) (fun c52 => ?_)
        · refine MJ_iconst (v := 0) dX7_comes_64 (by decide) ?_
          refine MJ_istore dX7_comes_65 (by decide) ?_
          exact MJ_loc _ rfl (fin false (decide_eq_false (fun z => by have := z.1; rw [n_lt] at this; rw [n_le] at c52; omega)).symm c31)
        · refine MJ_iload dX7_comes_55 rfl ?_
          refine MJ_if_ne (tgt := 64) dX7_comes_57 (by decide) (fun c57 => ?_) (fun c57 => ?_)
          · refine MJ_iconst (v := 0) dX7_comes_64 (by decide) ?_
            refine MJ_istore dX7_comes_65 (by decide) ?_
            exact MJ_loc _ rfl (fin false (decide_eq_false (fun z => c57 (bi_0.mpr z.2))).symm c31)
          · refine MJ_iconst (v := 1) dX7_comes_60 (by decide) ?_
            refine MJ_goto (tgt := 65) dX7_comes_61 (by decide) ?_
            refine MJ_istore dX7_comes_65 (by decide) ?_
            exact MJ_loc _ rfl (fin true (decide_eq_true ⟨by rw [n_lt]; rw [n_le] at c52; omega, bi_0.mp c57⟩).symm c31)
      · refine MJ_iconst (v := 1) dX7_comes_42 (by decide) ?_
        refine MJ_goto (tgt := 47) dX7_comes_43 (by decide) ?_
        have e3 : bi (decide (moment < 3)) = 1 := by rw [decide_eq_true (by rw [n_lt]; rw [n_le] at c39; omega)]; rfl
        rw [← e3]
        refine MJ_putZ dX7_comes_47 p_X7_117 bi_01 ?_
        refine MJ_iload dX7_comes_50 rfl ?_
        refine MJ_if_le (tgt := 64) dX7_comes_52 (by decide) (fun c52 => ?_) (fun c52 => ?_)
        · refine MJ_iconst (v := 0) dX7_comes_64 (by decide) ?_
          refine MJ_istore dX7_comes_65 (by decide) ?_
          exact MJ_loc _ rfl (fin false (decide_eq_false (fun z => by have := z.1; rw [n_lt] at this; rw [n_le] at c52; omega)).symm c31)
        · refine MJ_iload dX7_comes_55 rfl ?_
          refine MJ_if_ne (tgt := 64) dX7_comes_57 (by decide) (fun c57 => ?_) (fun c57 => ?_)
          · refine MJ_iconst (v := 0) dX7_comes_64 (by decide) ?_
            refine MJ_istore dX7_comes_65 (by decide) ?_
            exact MJ_loc _ rfl (fin false (decide_eq_false (fun z => c57 (bi_0.mpr z.2))).symm c31)
          · refine MJ_iconst (v := 1) dX7_comes_60 (by decide) ?_
            refine MJ_goto (tgt := 65) dX7_comes_61 (by decide) ?_
            refine MJ_istore dX7_comes_65 (by decide) ?_
            exact MJ_loc _ rfl (fin true (decide_eq_true ⟨by rw [n_lt]; rw [n_le] at c52; omega, bi_0.mp c57⟩).symm c31)
    · exact MJ_return dX7_comes_34 rfl ⟨rfl, by rw [hcf, if_pos c31]⟩
  refine MJ_iload_n dX7_comes_0 rfl rfl ?_
  refine MJ_if_eq (tgt := 13) dX7_comes_1 (by decide) (fun c1 => ?_) (fun c1 => ?_)
  · refine MJ_bipush (v := 6) dX7_comes_13 (by decide) ?_
    refine MJ_aload_n dX7_comes_15 rfl rfl isR_r ?_
    refine MJ_getA dX7_comes_16 g_X7_33 (by decide) ?_
    refine MJ_iload_n dX7_comes_19 rfl rfl ?_
    refine MJ_iald dX7_comes_20 (inx_v ha3) (by decide) ?_
    refine MJ_iadd dX7_comes_21 ?_
    have he3 : 6 + mT S 457 (tn ask) = e := by rw [← he2, bi_0.mp c1]; rfl
    rw [he3]
    exact MJ_loc _ rfl tail22
  · refine MJ_aload_n dX7_comes_4 rfl rfl isR_r ?_
    refine MJ_getA dX7_comes_5 g_X7_24 (by decide) ?_
    refine MJ_iload_n dX7_comes_8 rfl rfl ?_
    refine MJ_iald dX7_comes_9 (inx_v ha3) (by decide) ?_
    refine MJ_goto (tgt := 22) dX7_comes_10 (by decide) ?_
    have he3 : mT S 454 (tn ask) = e := by rw [← he2, bi_1.mp c1]; rfl
    rw [he3]
    exact MJ_loc _ rfl tail22
set_option maxRecDepth 100000 in
set_option maxHeartbeats 4000000 in
theorem mm_removeLetter {i : Nat} (hW : WF1 S) (hi : i < nL S) : MM x y 0 kX7_removeLetter [.ref y.1, .int (nI i)] S (fun z S' => z = none ∧ S' = removeF S i) := by
  refine MM.ofJ mkX7_removeLetter.1 (Nat.le_of_ble_eq_true rfl) fun h0 => ?_
  obtain ⟨hl1, hl2, hl3⟩ := inN_tn hW.1.2.1
  have hl4 : nL S < 121 := hl2
  have h468 : ∀ m, mI (rmF (pI S 468 (mI S 468 - 1)) i m) 468 = nI (nL S - 1) := fun m => by
    rw [rm_I, mI_pI, if_pos rfl, hl1]
    show nI (nL S) - nI 1 = nI (nL S - 1)
    exact nI_sub (by omega)
  have h01 : ∀ m j, (mT (rmF (pI S 468 (mI S 468 - 1)) i m) 470 j = 0 ∨ mT (rmF (pI S 468 (mI S 468 - 1)) i m) 470 j = 1) ∧ (mT (rmF (pI S 468 (mI S 468 - 1)) i m) 473 j = 0 ∨ mT (rmF (pI S 468 (mI S 468 - 1)) i m) 473 j = 1) := fun m j => by
    have h := (rm_at (S := pI S 468 (mI S 468 - 1)) i m).1
    rw [h 470 (by decide), h 473 (by decide)]
    split
    · exact hW.2.2.2.1 (j + 1)
    · exact hW.2.2.2.1 j
  have lp : ∀ n m, i + m ≤ nL S - 1 → nL S - 1 - (i + m) < n → MJ x y h0 0 (fun z S' => z = none ∧ S' = removeF S i) kX7_removeLetter 12 [(0, .ref y.1), (2, .int (nI (i + m)))] [] (rmF (pI S 468 (mI S 468 - 1)) i m) := by
    intro n
    induction n with
    | zero => intro m _ h; omega
    | succ n ih =>
      intro m hm hn
      have hz := h01 m (i + m + 1)
      have he := h468 m
      have en : rmF (pI S 468 (mI S 468 - 1)) i (m + 1) = letTo (rmF (pI S 468 (mI S 468 - 1)) i m) (i + m) := rfl
      have hrem : ¬ i + m < nL S - 1 → removeF S i = rmF (pI S 468 (mI S 468 - 1)) i m := fun z => by unfold removeF; congr 1; omega
      generalize rmF (pI S 468 (mI S 468 - 1)) i m = S' at *
      refine MJ_iload_n dX7_removeLetter_12 rfl rfl ?_
      refine MJ_aload_n dX7_removeLetter_13 rfl rfl isR_r ?_
      refine MJ_getI dX7_removeLetter_14 g_X7_124 ?_
      rw [he]
      refine MJ_icmp_ge (tgt := 96) dX7_removeLetter_17 (by decide) (fun c17 => ?_) (fun c17 => ?_)
      · rw [nI_lei (by omega) (by omega)] at c17
        exact MJ_return dX7_removeLetter_96 rfl ⟨rfl, (hrem (by omega)).symm⟩
      · rw [nI_lei (by omega) (by omega)] at c17
        refine MJ_aload_n dX7_removeLetter_20 rfl rfl isR_r ?_
        refine MJ_getA dX7_removeLetter_21 g_X7_66 (by decide) ?_
        refine MJ_iload_n dX7_removeLetter_24 rfl rfl ?_
        refine MJ_aload_n dX7_removeLetter_25 rfl rfl isR_r ?_
        refine MJ_getA dX7_removeLetter_26 g_X7_66 (by decide) ?_
        refine MJ_iload_n dX7_removeLetter_29 rfl rfl ?_
        refine MJ_iconst (v := 1) dX7_removeLetter_30 (by decide) ?_
        refine MJ_iadd dX7_removeLetter_31 ?_
        refine MJ_pc (pc' := 32) rfl ?_
        rw [nI_inc1]
        refine MJ_iald dX7_removeLetter_32 (by first | assumption | exact inx_v (by assumption) | exact inx_n (show _ < 121 by omega) (by decide)) (by decide) ?_
        refine MJ_iast dX7_removeLetter_33 (by first | assumption | exact inx_v (by assumption) | exact inx_n (show _ < 121 by omega) (by decide)) (by decide) ?_
        refine MJ_aload_n dX7_removeLetter_34 rfl rfl isR_r ?_
        refine MJ_getA dX7_removeLetter_35 g_X7_69 (by decide) ?_
        refine MJ_iload_n dX7_removeLetter_38 rfl rfl ?_
        refine MJ_aload_n dX7_removeLetter_39 rfl rfl isR_r ?_
        refine MJ_getA dX7_removeLetter_40 g_X7_69 (by decide) ?_
        refine MJ_iload_n dX7_removeLetter_43 rfl rfl ?_
        refine MJ_pc (pc' := 44) rfl ?_
        refine MJ_iconst (v := 1) dX7_removeLetter_44 (by decide) ?_
        refine MJ_iadd dX7_removeLetter_45 ?_
        rw [nI_inc1]
        refine MJ_zald dX7_removeLetter_46 (by first | assumption | exact inx_v (by assumption) | exact inx_n (show _ < 121 by omega) (by decide)) (by decide) ?_
        refine MJ_zast dX7_removeLetter_47 (by first | assumption | exact inx_v (by assumption) | exact inx_n (show _ < 121 by omega) (by decide)) hz.1 (by decide) ?_
        refine MJ_aload_n dX7_removeLetter_48 rfl rfl isR_r ?_
        refine MJ_getA dX7_removeLetter_49 g_X7_72 (by decide) ?_
        refine MJ_iload_n dX7_removeLetter_52 rfl rfl ?_
        refine MJ_aload_n dX7_removeLetter_53 rfl rfl isR_r ?_
        refine MJ_pc (pc' := 54) rfl ?_
        refine MJ_getA dX7_removeLetter_54 g_X7_72 (by decide) ?_
        refine MJ_iload_n dX7_removeLetter_57 rfl rfl ?_
        refine MJ_iconst (v := 1) dX7_removeLetter_58 (by decide) ?_
        refine MJ_iadd dX7_removeLetter_59 ?_
        rw [nI_inc1]
        refine MJ_iald dX7_removeLetter_60 (by first | assumption | exact inx_v (by assumption) | exact inx_n (show _ < 121 by omega) (by decide)) (by decide) ?_
        refine MJ_iast dX7_removeLetter_61 (by first | assumption | exact inx_v (by assumption) | exact inx_n (show _ < 121 by omega) (by decide)) (by decide) ?_
        refine MJ_aload_n dX7_removeLetter_62 rfl rfl isR_r ?_
        refine MJ_getA dX7_removeLetter_63 g_X7_75 (by decide) ?_
        refine MJ_pc (pc' := 66) rfl ?_
        refine MJ_iload_n dX7_removeLetter_66 rfl rfl ?_
        refine MJ_aload_n dX7_removeLetter_67 rfl rfl isR_r ?_
        refine MJ_getA dX7_removeLetter_68 g_X7_75 (by decide) ?_
        refine MJ_iload_n dX7_removeLetter_71 rfl rfl ?_
        refine MJ_iconst (v := 1) dX7_removeLetter_72 (by decide) ?_
        refine MJ_iadd dX7_removeLetter_73 ?_
        rw [nI_inc1]
        refine MJ_lald dX7_removeLetter_74 (by first | assumption | exact inx_v (by assumption) | exact inx_n (show _ < 121 by omega) (by decide)) (by decide) ?_
        refine MJ_last dX7_removeLetter_75 (by first | assumption | exact inx_v (by assumption) | exact inx_n (show _ < 121 by omega) (by decide)) (by decide) ?_
        refine MJ_pc (pc' := 76) rfl ?_
        refine MJ_aload_n dX7_removeLetter_76 rfl rfl isR_r ?_
        refine MJ_getA dX7_removeLetter_77 g_X7_78 (by decide) ?_
        refine MJ_iload_n dX7_removeLetter_80 rfl rfl ?_
        refine MJ_aload_n dX7_removeLetter_81 rfl rfl isR_r ?_
        refine MJ_getA dX7_removeLetter_82 g_X7_78 (by decide) ?_
        refine MJ_iload_n dX7_removeLetter_85 rfl rfl ?_
        refine MJ_iconst (v := 1) dX7_removeLetter_86 (by decide) ?_
        refine MJ_iadd dX7_removeLetter_87 ?_
        refine MJ_pc (pc' := 88) rfl ?_
        rw [nI_inc1]
        refine MJ_zald dX7_removeLetter_88 (by first | assumption | exact inx_v (by assumption) | exact inx_n (show _ < 121 by omega) (by decide)) (by decide) ?_
        refine MJ_zast dX7_removeLetter_89 (by first | assumption | exact inx_v (by assumption) | exact inx_n (show _ < 121 by omega) (by decide)) hz.2 (by decide) ?_
        refine MJ_iinc dX7_removeLetter_90 rfl (nI_inc _) (by decide) ?_
        refine MJ_goto (tgt := 12) dX7_removeLetter_93 (by decide) ?_
        have := ih (m + 1) (by omega) (by omega)
        rw [en] at this
        exact MJ_loc _ rfl this
  refine MJ_aload_n dX7_removeLetter_0 rfl rfl isR_r ?_
  refine MJ_dup dX7_removeLetter_1 rfl ?_
  refine MJ_getI dX7_removeLetter_2 g_X7_124 ?_
  refine MJ_iconst (v := 1) dX7_removeLetter_5 (by decide) ?_
  refine MJ_isub dX7_removeLetter_6 ?_
  refine MJ_putI dX7_removeLetter_7 p_X7_124 ?_
  refine MJ_iload_n dX7_removeLetter_10 rfl rfl ?_
  refine MJ_istore_n dX7_removeLetter_11 rfl (by decide) ?_
  exact MJ_loc _ rfl (lp (nL S) 0 (by omega) (by omega))
set_option maxRecDepth 100000 in
set_option maxHeartbeats 4000000 in
theorem mm_brings {i : Nat} {moment : Int32} (hW : WF1 S) (hi : i < nL S) (hr : nR S + 1 < 700) : MM x y 6 kX7_brings [.ref y.1, .int (nI i), .int moment] S (fun z S' => z = none ∧ S' = bringsF S i moment) := by
  refine MM.ofJ mkX7_brings.1 (Nat.le_of_ble_eq_true rfl) fun h0 => ?_
  obtain ⟨hl1, hl2, hl3⟩ := inN_tn hW.1.2.1
  have hl4 : nL S < 121 := hl2
  have hidx : inx (nI i) i 121 := inx_n (by omega) (by decide)
  have hz := hW.2.2.2.1 i
  have ha := hW.2.2.1 i hi
  have ea : bi (decide (mT S 470 i ≠ 0)) = mT S 470 i := by rcases hz.1 with e | e <;> rw [e] <;> rfl
  have eb : bi (decide (mT S 473 i ≠ 0)) = mT S 473 i := by rcases hz.2 with e | e <;> rw [e] <;> rfl
  have tail : ∀ b, b = decide (mT S 470 i ≠ 0 ∧ mJ S 472 i = -3) → MJ x y h0 6 (fun z S' => z = none ∧ S' = bringsF S i moment) kX7_brings 59 [(0, .ref y.1), (1, .int (nI i)), (2, .int moment), (3, .int (mT S 469 i)), (4, .int (mT S 470 i)), (5, .int (mT S 471 i)), (6, .long (mJ S 472 i)), (8, .int (mT S 473 i))] [.int (bi b), .ref y.1] S := by
    intro b hb
    have hW1 : WF1 (pI S 487 (bi b)) := WF1_pI (by decide) hW
    have hi1 : i < nL (pI S 487 (bi b)) := by rw [nL_pI (by decide)]; exact hi
    have hW2 := WF1_remove hW1 hi1
    have n2 : nA (removeF (pI S 487 (bi b)) i) = nA S := congrArg tn ((remove_I i (by decide)).trans (mI_pI_ne _ _ (by decide)))
    have r2 : nR (removeF (pI S 487 (bi b)) i) = nR S := congrArg tn ((remove_I i (by decide)).trans (mI_pI_ne _ _ (by decide)))
    have hbr : bringsF S i moment = comesF (pI (pI (removeF (pI S 487 (bi b)) i) 482 (mI (removeF (pI S 487 (bi b)) i) 482 + 1)) 486 0) (mT S 469 i) (decide (mT S 470 i ≠ 0)) (mT S 471 i) (mJ S 472 i) (decide (mT S 473 i ≠ 0)) moment := by unfold bringsF; rw [hb]
    rw [hbr, ← ea, ← eb]
    refine MJ_putZ dX7_brings_59 p_X7_212 bi_01 ?_
    refine MJ_aload_n dX7_brings_62 rfl rfl isR_r ?_
    refine MJ_iload_n dX7_brings_63 rfl rfl ?_
    refine MJ_callV (mm_removeLetter hW1 hi1) dX7_brings_64 ml_X7_218 mkX7_removeLetter rfl rfl rfl (Nat.le_of_ble_eq_true rfl) ⟨Nat.le_of_ble_eq_true rfl, Nat.le_of_ble_eq_true rfl⟩ (fun v64 h64 q64 => ?_)
    obtain ⟨rfl, z64⟩ := q64
    rw [z64]
    refine MJ_aload_n dX7_brings_67 rfl rfl isR_r ?_
    refine MJ_dup dX7_brings_68 rfl ?_
    refine MJ_getI dX7_brings_69 g_X7_222 ?_
    refine MJ_iconst (v := 1) dX7_brings_72 (by decide) ?_
    refine MJ_pc (pc' := 73) rfl ?_
    refine MJ_iadd dX7_brings_73 ?_
    refine MJ_putI dX7_brings_74 p_X7_222 ?_
    refine MJ_aload_n dX7_brings_77 rfl rfl isR_r ?_
    refine MJ_iconst (v := 0) dX7_brings_78 (by decide) ?_
    refine MJ_putI dX7_brings_79 p_X7_121 ?_
    refine MJ_aload_n dX7_brings_82 rfl rfl isR_r ?_
    refine MJ_iload_n dX7_brings_83 rfl rfl ?_
    refine MJ_iload dX7_brings_84 rfl ?_
    refine MJ_pc (pc' := 86) rfl ?_
    refine MJ_iload dX7_brings_86 rfl ?_
    refine MJ_lload dX7_brings_88 rfl ?_
    refine MJ_iload dX7_brings_90 rfl ?_
    refine MJ_iload_n dX7_brings_92 rfl rfl ?_
    refine MJ_callV (mm_comes (WF1_pI (by decide) (WF1_pI (by decide) hW2)) (by rw [nA_pI (by decide), nA_pI (by decide), n2]; exact ha) (by rw [nR_pI (by decide), nR_pI (by decide), r2]; exact hr)) dX7_brings_93 ml_X7_225 mkX7_comes rfl rfl rfl (Nat.le_of_ble_eq_true rfl) ⟨Nat.le_of_ble_eq_true rfl, Nat.le_of_ble_eq_true rfl⟩ (fun v93 h93 q93 => ?_)
    obtain ⟨rfl, z93⟩ := q93
    rw [z93]
    exact MJ_return dX7_brings_96 rfl ⟨rfl, by rw [ea, eb]⟩
  refine MJ_aload_n dX7_brings_0 rfl rfl isR_r ?_
  refine MJ_getA dX7_brings_1 g_X7_66 (by decide) ?_
  refine MJ_iload_n dX7_brings_4 rfl rfl ?_
  refine MJ_iald dX7_brings_5 hidx (by decide) ?_
  refine MJ_istore_n dX7_brings_6 rfl (by decide) ?_
  refine MJ_aload_n dX7_brings_7 rfl rfl isR_r ?_
  refine MJ_getA dX7_brings_8 g_X7_69 (by decide) ?_
  refine MJ_iload_n dX7_brings_11 rfl rfl ?_
  refine MJ_pc (pc' := 12) rfl ?_
  refine MJ_zald dX7_brings_12 hidx (by decide) ?_
  refine MJ_istore dX7_brings_13 (by decide) ?_
  refine MJ_aload_n dX7_brings_15 rfl rfl isR_r ?_
  refine MJ_getA dX7_brings_16 g_X7_72 (by decide) ?_
  refine MJ_iload_n dX7_brings_19 rfl rfl ?_
  refine MJ_iald dX7_brings_20 hidx (by decide) ?_
  refine MJ_istore dX7_brings_21 (by decide) ?_
  refine MJ_aload_n dX7_brings_23 rfl rfl isR_r ?_
  refine MJ_pc (pc' := 24) rfl ?_
  refine MJ_getA dX7_brings_24 g_X7_75 (by decide) ?_
  refine MJ_iload_n dX7_brings_27 rfl rfl ?_
  refine MJ_lald dX7_brings_28 hidx (by decide) ?_
  refine MJ_lstore dX7_brings_29 (by decide) ?_
  refine MJ_aload_n dX7_brings_31 rfl rfl isR_r ?_
  refine MJ_getA dX7_brings_32 g_X7_78 (by decide) ?_
  refine MJ_iload_n dX7_brings_35 rfl rfl ?_
  refine MJ_zald dX7_brings_36 hidx (by decide) ?_
  refine MJ_pc (pc' := 37) rfl ?_
  refine MJ_istore dX7_brings_37 (by decide) ?_
  refine MJ_aload_n dX7_brings_39 rfl rfl isR_r ?_
  refine MJ_iload dX7_brings_40 rfl ?_
  refine MJ_if_eq (tgt := 58) dX7_brings_42 (by decide) (fun c42 => ?_) (fun c42 => ?_)
  · refine MJ_iconst (v := 0) dX7_brings_58 (by decide) ?_
    exact MJ_loc _ rfl (tail false (decide_eq_false (fun z => z.1 c42)).symm)
  · refine MJ_lload dX7_brings_45 rfl ?_
    refine MJ_ldc2 dX7_brings_47 ll_X7_179 ?_
    refine MJ_lcmp dX7_brings_50 ?_
    refine MJ_if_ne (tgt := 58) dX7_brings_51 (by decide) (fun c51 => ?_) (fun c51 => ?_)
    · refine MJ_iconst (v := 0) dX7_brings_58 (by decide) ?_
      exact MJ_loc _ rfl (tail false (decide_eq_false (fun z => c51 ((lg_cmp_eq _ _).mpr z.2))).symm)
    · refine MJ_iconst (v := 1) dX7_brings_54 (by decide) ?_
      refine MJ_goto (tgt := 59) dX7_brings_55 (by decide) ?_
      exact MJ_loc _ rfl (tail true (decide_eq_true ⟨c42, (lg_cmp_eq _ _).mp c51⟩).symm)
end M6
end
section
/-! the reference's face: answer and state behind it -/
section P1
variable {x : om_x} {y : om_y} {S : Ms}
def askOK (a s k p q t m : Int32) : Bool := inL a.toInt64 0 5 && (inL s.toInt64 0 3 && (inL k.toInt64 0 4 && (inL p.toInt64 0 5 && (inL q.toInt64 0 5 && (inL t.toInt64 0 3 && inL m.toInt64 (-1000000) 1000000)))))
def askP (S : Ms) (a s k p q t m : Int32) : Int32 × Ms :=
  if askOK a s k p q t m = false ∨ (((k = 2 ∨ k = 3) ∧ m < 0) ∨ (k = 4 ∧ m < 1)) then (-2000001, S)
  else if mT S 449 (tn a) ≠ 0 then (-2000002, S)
  else if mI S 453 = 300 ∨ usedUp S a = true then (-2000003, S)
  else (mI S 453, sendF (newAskF S a s k p q t m (-1)) (mI S 453) false 0)
set_option maxRecDepth 100000 in
set_option maxHeartbeats 4000000 in
theorem mp_ask {a s k p q t m : Int32} (hW : WF1 S) : MM x y 2 kX7_ask [.ref y.1, .int a, .int s, .int k, .int p, .int q, .int t, .int m] S (fun z S' => z = some (.int (askP S a s k p q t m).1) ∧ S' = (askP S a s k p q t m).2) := by
  refine MM.ofJ mkX7_ask.1 (Nat.le_of_ble_eq_true rfl) fun h0 => ?_
  have bad : askOK a s k p q t m = false ∨ (((k = 2 ∨ k = 3) ∧ m < 0) ∨ (k = 4 ∧ m < 1)) → askP S a s k p q t m = (-2000001, S) := fun z => by unfold askP; rw [if_pos z]
  have good : ¬ (askOK a s k p q t m = false ∨ (((k = 2 ∨ k = 3) ∧ m < 0) ∨ (k = 4 ∧ m < 1))) → askP S a s k p q t m = if mT S 449 (tn a) ≠ 0 then (-2000002, S) else if mI S 453 = 300 ∨ usedUp S a = true then (-2000003, S) else (mI S 453, sendF (newAskF S a s k p q t m (-1)) (mI S 453) false 0) := fun z => by unfold askP; rw [if_neg z]
  have tail : askOK a s k p q t m = true → ¬ (((k = 2 ∨ k = 3) ∧ m < 0) ∨ (k = 4 ∧ m < 1)) → MJ x y h0 2 (fun z S' => z = some (.int (askP S a s k p q t m).1) ∧ S' = (askP S a s k p q t m).2) kX7_ask 122 [(0, .ref y.1), (1, .int a), (2, .int s), (3, .int k), (4, .int p), (5, .int q), (6, .int t), (7, .int m)] [] S := by
    intro g1 g2
    have g := good (fun z => z.elim (fun q => by rw [g1] at q; cases q) g2)
    unfold askOK at g1
    simp only [Bool.and_eq_true] at g1
    obtain ⟨q1, q2, q3, q4, q5, q6, q7⟩ := g1
    have ha : inN a 6 = true := by rw [← inL_inN (m := 5) 6 (by decide)]; exact q1
    have ha10 : inN a 10 = true := inN_le ha (by decide)
    have hs : inN s 4 = true := by rw [← inL_inN (m := 3) 4 (by decide)]; exact q2
    have hp : inN p 6 = true := by rw [← inL_inN (m := 5) 6 (by decide)]; exact q4
    have hq : inN q 6 = true := by rw [← inL_inN (m := 5) 6 (by decide)]; exact q5
    have ht : inN t 4 = true := by rw [← inL_inN (m := 3) 4 (by decide)]; exact q6
    rw [g]
    refine MJ_aload_n dX7_ask_122 rfl rfl isR_r ?_
    refine MJ_getA dX7_ask_123 g_X7_7 (by decide) ?_
    refine MJ_iload_n dX7_ask_126 rfl rfl ?_
    refine MJ_zald dX7_ask_127 (inx_v ha10) (by decide) ?_
    refine MJ_if_eq (tgt := 134) dX7_ask_128 (by decide) (fun c128 => ?_) (fun c128 => ?_)
    · refine MJ_aload_n dX7_ask_134 rfl rfl isR_r ?_
      refine MJ_getI dX7_ask_135 g_X7_106 ?_
      refine MJ_sipush (v := 300) dX7_ask_138 (by decide) ?_
      refine MJ_icmp_eq (tgt := 152) dX7_ask_141 (by decide) (fun c141 => ?_) (fun c141 => ?_)
      · refine MJ_ldc dX7_ask_152 lc_X7_146 ?_
        exact MJ_ireturn dX7_ask_154 rfl ⟨by rw [if_neg (fun z => z c128), if_pos (Or.inl c141)], by rw [if_neg (fun z => z c128), if_pos (Or.inl c141)]⟩
      · refine MJ_aload_n dX7_ask_144 rfl rfl isR_r ?_
        refine MJ_iload_n dX7_ask_145 rfl rfl ?_
        refine MJ_callV (mm_isUsedUp ha10 hW.1.1) dX7_ask_146 ml_X7_142 mkX7_isUsedUp rfl rfl rfl (Nat.le_of_ble_eq_true rfl) ⟨Nat.le_of_ble_eq_true rfl, Nat.le_of_ble_eq_true rfl⟩ (fun v146 h146 q146 => ?_)
        obtain ⟨rfl, z146⟩ := q146
        rw [z146]
        refine MJ_if_eq (tgt := 155) dX7_ask_149 (by decide) (fun c149 => ?_) (fun c149 => ?_)
        · have hlt : nA S < 300 := by
           have e4 := inN_tn hW.1.1
           have : tn (mI S 453) ≠ 300 := fun z => c141 (by rw [e4.1, z]; rfl)
           unfold nA; omega
          have h5 : 5 < a → inN (-1) (nA S) = true := fun z => by
           have := (inN_tn ha)
           rw [this.1, show (5 : Int32) = nI 5 from rfl, nI_lti (by decide) (by omega)] at z
           omega
          obtain ⟨w4, n4⟩ := WF1_newAsk hW hlt ha10 hs hp hq ht (kind := k) (amt := m) (far := -1) h5
          have hk5 : inN (mI S 453) (nA (newAskF S a s k p q t m (-1))) = true := by
           have e4 := inN_tn hW.1.1
           rw [n4, e4.1]; exact inN_nIlt (Nat.lt_succ_self _) (by unfold nA; omega)
          refine MJ_aload_n dX7_ask_155 rfl rfl isR_r ?_
          refine MJ_iload_n dX7_ask_156 rfl rfl ?_
          refine MJ_iload_n dX7_ask_157 rfl rfl ?_
          refine MJ_iload_n dX7_ask_158 rfl rfl ?_
          refine MJ_iload dX7_ask_159 rfl ?_
          refine MJ_iload dX7_ask_161 rfl ?_
          refine MJ_iload dX7_ask_163 rfl ?_
          refine MJ_iload dX7_ask_165 rfl ?_
          refine MJ_pc (pc' := 167) rfl ?_
          refine MJ_iconst (v := -1) dX7_ask_167 (by decide) ?_
          refine MJ_callV (mm_newAsk hW ha10 hlt) dX7_ask_168 ml_X7_147 mkX7_newAsk rfl rfl rfl (Nat.le_of_ble_eq_true rfl) ⟨Nat.le_of_ble_eq_true rfl, Nat.le_of_ble_eq_true rfl⟩ (fun v168 h168 q168 => ?_)
          obtain ⟨rfl, z168⟩ := q168
          rw [z168]
          refine MJ_istore dX7_ask_171 (by decide) ?_
          refine MJ_aload_n dX7_ask_173 rfl rfl isR_r ?_
          refine MJ_iload dX7_ask_174 rfl ?_
          refine MJ_iconst (v := 0) dX7_ask_176 (by decide) ?_
          refine MJ_lconst (v := 0) dX7_ask_177 (by decide) ?_
          refine MJ_callV (mm_send (ans := false) w4 hk5) dX7_ask_178 ml_X7_151 mkX7_send rfl rfl rfl (Nat.le_of_ble_eq_true rfl) ⟨Nat.le_of_ble_eq_true rfl, Nat.le_of_ble_eq_true rfl⟩ (fun v178 h178 q178 => ?_)
          obtain ⟨rfl, z178⟩ := q178
          rw [z178]
          refine MJ_pc (pc' := 181) rfl ?_
          refine MJ_iload dX7_ask_181 rfl ?_
          exact MJ_ireturn dX7_ask_183 rfl ⟨by rw [if_neg (fun z => z c128), if_neg (fun z => z.elim c141 (fun q => by rw [bi_0.mp c149] at q; cases q))], by rw [if_neg (fun z => z c128), if_neg (fun z => z.elim c141 (fun q => by rw [bi_0.mp c149] at q; cases q))]⟩
        · refine MJ_ldc dX7_ask_152 lc_X7_146 ?_
          exact MJ_ireturn dX7_ask_154 rfl ⟨by rw [if_neg (fun z => z c128), if_pos (Or.inr (bi_1.mp c149))], by rw [if_neg (fun z => z c128), if_pos (Or.inr (bi_1.mp c149))]⟩
    · refine MJ_ldc dX7_ask_131 lc_X7_141 ?_
      exact MJ_ireturn dX7_ask_133 rfl ⟨by rw [if_pos c128], by rw [if_pos c128]⟩
  have out : ∀ {j : Int32 × Ms}, askP S a s k p q t m = j → (some (Value.int j.1) = some (Value.int (askP S a s k p q t m).1) ∧ j.2 = (askP S a s k p q t m).2) := fun z => by rw [z]; exact ⟨rfl, rfl⟩
  refine MJ_iload_n dX7_ask_0 rfl rfl ?_
  refine MJ_i2l dX7_ask_1 ?_
  refine MJ_lconst (v := 0) dX7_ask_2 (by decide) ?_
  refine MJ_ldc2 dX7_ask_3 ll_X7_130 ?_
  refine MJ_callS (mm_in _ _ _) dX7_ask_6 ml_X7_109 mkX7_in rfl rfl (Nat.le_of_ble_eq_true rfl) ⟨Nat.le_of_ble_eq_true rfl, Nat.le_of_ble_eq_true rfl⟩ (fun v6 h6 q6 => ?_)
  obtain ⟨rfl, z6⟩ := q6
  rw [z6]
  refine MJ_if_eq (tgt := 90) dX7_ask_9 (by decide) (fun c9 => ?_) (fun c9 => ?_)
  · refine MJ_ldc dX7_ask_90 lc_X7_140 ?_
    exact MJ_ireturn dX7_ask_92 rfl (out (bad (Or.inl (by unfold askOK; rw [bi_0.mp c9]; rfl))))
  · refine MJ_iload_n dX7_ask_12 rfl rfl ?_
    refine MJ_i2l dX7_ask_13 ?_
    refine MJ_lconst (v := 0) dX7_ask_14 (by decide) ?_
    refine MJ_ldc2 dX7_ask_15 ll_X7_132 ?_
    refine MJ_callS (mm_in _ _ _) dX7_ask_18 ml_X7_109 mkX7_in rfl rfl (Nat.le_of_ble_eq_true rfl) ⟨Nat.le_of_ble_eq_true rfl, Nat.le_of_ble_eq_true rfl⟩ (fun v18 h18 q18 => ?_)
    obtain ⟨rfl, z18⟩ := q18
    rw [z18]
    refine MJ_if_eq (tgt := 90) dX7_ask_21 (by decide) (fun c21 => ?_) (fun c21 => ?_)
    · refine MJ_ldc dX7_ask_90 lc_X7_140 ?_
      exact MJ_ireturn dX7_ask_92 rfl (out (bad (Or.inl (by unfold askOK; rw [bi_0.mp c21]; simp))))
    · refine MJ_iload_n dX7_ask_24 rfl rfl ?_
      refine MJ_i2l dX7_ask_25 ?_
      refine MJ_lconst (v := 0) dX7_ask_26 (by decide) ?_
      refine MJ_ldc2 dX7_ask_27 ll_X7_134 ?_
      refine MJ_callS (mm_in _ _ _) dX7_ask_30 ml_X7_109 mkX7_in rfl rfl (Nat.le_of_ble_eq_true rfl) ⟨Nat.le_of_ble_eq_true rfl, Nat.le_of_ble_eq_true rfl⟩ (fun v30 h30 q30 => ?_)
      obtain ⟨rfl, z30⟩ := q30
      rw [z30]
      refine MJ_if_eq (tgt := 90) dX7_ask_33 (by decide) (fun c33 => ?_) (fun c33 => ?_)
      · refine MJ_ldc dX7_ask_90 lc_X7_140 ?_
        exact MJ_ireturn dX7_ask_92 rfl (out (bad (Or.inl (by unfold askOK; rw [bi_0.mp c33]; simp))))
      · refine MJ_iload dX7_ask_36 rfl ?_
        refine MJ_i2l dX7_ask_38 ?_
        refine MJ_lconst (v := 0) dX7_ask_39 (by decide) ?_
        refine MJ_ldc2 dX7_ask_40 ll_X7_130 ?_
        refine MJ_callS (mm_in _ _ _) dX7_ask_43 ml_X7_109 mkX7_in rfl rfl (Nat.le_of_ble_eq_true rfl) ⟨Nat.le_of_ble_eq_true rfl, Nat.le_of_ble_eq_true rfl⟩ (fun v43 h43 q43 => ?_)
        obtain ⟨rfl, z43⟩ := q43
        rw [z43]
        refine MJ_if_eq (tgt := 90) dX7_ask_46 (by decide) (fun c46 => ?_) (fun c46 => ?_)
        · refine MJ_ldc dX7_ask_90 lc_X7_140 ?_
          exact MJ_ireturn dX7_ask_92 rfl (out (bad (Or.inl (by unfold askOK; rw [bi_0.mp c46]; simp))))
        · refine MJ_iload dX7_ask_49 rfl ?_
          refine MJ_i2l dX7_ask_51 ?_
          refine MJ_lconst (v := 0) dX7_ask_52 (by decide) ?_
          refine MJ_ldc2 dX7_ask_53 ll_X7_130 ?_
          refine MJ_callS (mm_in _ _ _) dX7_ask_56 ml_X7_109 mkX7_in rfl rfl (Nat.le_of_ble_eq_true rfl) ⟨Nat.le_of_ble_eq_true rfl, Nat.le_of_ble_eq_true rfl⟩ (fun v56 h56 q56 => ?_)
          obtain ⟨rfl, z56⟩ := q56
          rw [z56]
          refine MJ_if_eq (tgt := 90) dX7_ask_59 (by decide) (fun c59 => ?_) (fun c59 => ?_)
          · refine MJ_ldc dX7_ask_90 lc_X7_140 ?_
            exact MJ_ireturn dX7_ask_92 rfl (out (bad (Or.inl (by unfold askOK; rw [bi_0.mp c59]; simp))))
          · refine MJ_iload dX7_ask_62 rfl ?_
            refine MJ_i2l dX7_ask_64 ?_
            refine MJ_lconst (v := 0) dX7_ask_65 (by decide) ?_
            refine MJ_ldc2 dX7_ask_66 ll_X7_132 ?_
            refine MJ_callS (mm_in _ _ _) dX7_ask_69 ml_X7_109 mkX7_in rfl rfl (Nat.le_of_ble_eq_true rfl) ⟨Nat.le_of_ble_eq_true rfl, Nat.le_of_ble_eq_true rfl⟩ (fun v69 h69 q69 => ?_)
            obtain ⟨rfl, z69⟩ := q69
            rw [z69]
            refine MJ_if_eq (tgt := 90) dX7_ask_72 (by decide) (fun c72 => ?_) (fun c72 => ?_)
            · refine MJ_ldc dX7_ask_90 lc_X7_140 ?_
              exact MJ_ireturn dX7_ask_92 rfl (out (bad (Or.inl (by unfold askOK; rw [bi_0.mp c72]; simp))))
            · refine MJ_iload dX7_ask_75 rfl ?_
              refine MJ_i2l dX7_ask_77 ?_
              refine MJ_ldc2 dX7_ask_78 ll_X7_136 ?_
              refine MJ_ldc2 dX7_ask_81 ll_X7_138 ?_
              refine MJ_callS (mm_in _ _ _) dX7_ask_84 ml_X7_109 mkX7_in rfl rfl (Nat.le_of_ble_eq_true rfl) ⟨Nat.le_of_ble_eq_true rfl, Nat.le_of_ble_eq_true rfl⟩ (fun v84 h84 q84 => ?_)
              obtain ⟨rfl, z84⟩ := q84
              rw [z84]
              refine MJ_if_ne (tgt := 93) dX7_ask_87 (by decide) (fun c87 => ?_) (fun c87 => ?_)
              · have ok : askOK a s k p q t m = true := by unfold askOK; rw [bi_1.mp c9, bi_1.mp c21, bi_1.mp c33, bi_1.mp c46, bi_1.mp c59, bi_1.mp c72, bi_1.mp c87]; rfl
                refine MJ_iload_n dX7_ask_93 rfl rfl ?_
                refine MJ_iconst (v := 2) dX7_ask_94 (by decide) ?_
                refine MJ_icmp_eq (tgt := 103) dX7_ask_95 (by decide) (fun c95 => ?_) (fun c95 => ?_)
                · refine MJ_iload dX7_ask_103 rfl ?_
                  refine MJ_if_lt (tgt := 119) dX7_ask_105 (by decide) (fun c105 => ?_) (fun c105 => ?_)
                  · refine MJ_ldc dX7_ask_119 lc_X7_140 ?_
                    exact MJ_ireturn dX7_ask_121 rfl (out (bad (Or.inr (Or.inl ⟨Or.inl c95, c105⟩))))
                  · refine MJ_iload_n dX7_ask_108 rfl rfl ?_
                    refine MJ_iconst (v := 4) dX7_ask_109 (by decide) ?_
                    refine MJ_icmp_ne (tgt := 122) dX7_ask_110 (by decide) (fun c110 => ?_) (fun c110 => ?_)
                    · exact MJ_loc _ rfl (tail ok (fun z => z.elim (fun q => c105 q.2) (fun q => c110 q.1)))
                    · refine MJ_iload dX7_ask_113 rfl ?_
                      refine MJ_iconst (v := 1) dX7_ask_115 (by decide) ?_
                      refine MJ_icmp_ge (tgt := 122) dX7_ask_116 (by decide) (fun c116 => ?_) (fun c116 => ?_)
                      · exact MJ_loc _ rfl (tail ok (fun z => z.elim (fun q => c105 q.2) (fun q => by have := q.2; rw [n_lt] at this; rw [n_le] at c116; omega)))
                      · refine MJ_ldc dX7_ask_119 lc_X7_140 ?_
                        exact MJ_ireturn dX7_ask_121 rfl (out (bad (Or.inr (Or.inr ⟨c110, by rw [n_lt]; rw [n_le] at c116; omega⟩))))
                · refine MJ_iload_n dX7_ask_98 rfl rfl ?_
                  refine MJ_iconst (v := 3) dX7_ask_99 (by decide) ?_
                  refine MJ_icmp_ne (tgt := 108) dX7_ask_100 (by decide) (fun c100 => ?_) (fun c100 => ?_)
                  · refine MJ_iload_n dX7_ask_108 rfl rfl ?_
                    refine MJ_iconst (v := 4) dX7_ask_109 (by decide) ?_
                    refine MJ_icmp_ne (tgt := 122) dX7_ask_110 (by decide) (fun c110 => ?_) (fun c110 => ?_)
                    · exact MJ_loc _ rfl (tail ok (fun z => z.elim (fun q => q.1.elim c95 c100) (fun q => c110 q.1)))
                    · refine MJ_iload dX7_ask_113 rfl ?_
                      refine MJ_iconst (v := 1) dX7_ask_115 (by decide) ?_
                      refine MJ_icmp_ge (tgt := 122) dX7_ask_116 (by decide) (fun c116 => ?_) (fun c116 => ?_)
                      · exact MJ_loc _ rfl (tail ok (fun z => z.elim (fun q => q.1.elim c95 c100) (fun q => by have := q.2; rw [n_lt] at this; rw [n_le] at c116; omega)))
                      · refine MJ_ldc dX7_ask_119 lc_X7_140 ?_
                        exact MJ_ireturn dX7_ask_121 rfl (out (bad (Or.inr (Or.inr ⟨c110, by rw [n_lt]; rw [n_le] at c116; omega⟩))))
                  · refine MJ_iload dX7_ask_103 rfl ?_
                    refine MJ_if_lt (tgt := 119) dX7_ask_105 (by decide) (fun c105 => ?_) (fun c105 => ?_)
                    · refine MJ_ldc dX7_ask_119 lc_X7_140 ?_
                      exact MJ_ireturn dX7_ask_121 rfl (out (bad (Or.inr (Or.inl ⟨Or.inr c100, c105⟩))))
                    · refine MJ_iload_n dX7_ask_108 rfl rfl ?_
                      refine MJ_iconst (v := 4) dX7_ask_109 (by decide) ?_
                      refine MJ_icmp_ne (tgt := 122) dX7_ask_110 (by decide) (fun c110 => ?_) (fun c110 => ?_)
                      · exact MJ_loc _ rfl (tail ok (fun z => z.elim (fun q => c105 q.2) (fun q => c110 q.1)))
                      · refine MJ_iload dX7_ask_113 rfl ?_
                        refine MJ_iconst (v := 1) dX7_ask_115 (by decide) ?_
                        refine MJ_icmp_ge (tgt := 122) dX7_ask_116 (by decide) (fun c116 => ?_) (fun c116 => ?_)
                        · exact MJ_loc _ rfl (tail ok (fun z => z.elim (fun q => c105 q.2) (fun q => by have := q.2; rw [n_lt] at this; rw [n_le] at c116; omega)))
                        · refine MJ_ldc dX7_ask_119 lc_X7_140 ?_
                          exact MJ_ireturn dX7_ask_121 rfl (out (bad (Or.inr (Or.inr ⟨c110, by rw [n_lt]; rw [n_le] at c116; omega⟩))))
              · refine MJ_ldc dX7_ask_90 lc_X7_140 ?_
                exact MJ_ireturn dX7_ask_92 rfl (out (bad (Or.inl (by unfold askOK; rw [bi_0.mp c87]; simp))))
end P1
end
