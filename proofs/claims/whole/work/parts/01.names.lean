-- ===== PART A: goes FIRST, ahead of the names: the tables' words, and 'selects' of the private methods out of them =====
/-- a private method of a class that the tables say can be made, by its rows of tables_1 -/
def lw_okq (q : MethodName × Nat) : Prop := (q.1.cls ≠ "java/lang/invoke/MethodHandle" ∧ q.1.cls ≠ "java/lang/invoke/VarHandle") ∧ Cond.instantiable q.1.cls q.2 ∈ tables_1 ∧ Cond.privateMethod q.1 ∈ tables_1 ∧ Cond.instanceMethod q.1 ∈ tables_1
theorem lw_p0 : lw_okq (⟨"TermLog$World", "draw", "()I"⟩, 16) := ⟨⟨by decide +kernel, by decide +kernel⟩, List.mem_of_getElem? (i := 52) (by decide +kernel), List.mem_of_getElem? (i := 420) (by decide +kernel), List.mem_of_getElem? (i := 421) (by decide +kernel)⟩
theorem lw_p1 : lw_okq (⟨"TermLog$World", "loseReads", "(LTermLog$Node;)V"⟩, 16) := ⟨⟨by decide +kernel, by decide +kernel⟩, List.mem_of_getElem? (i := 52) (by decide +kernel), List.mem_of_getElem? (i := 476) (by decide +kernel), List.mem_of_getElem? (i := 477) (by decide +kernel)⟩
theorem lw_p2 : lw_okq (⟨"TermLog$Node", "dropUpTo", "(I)V"⟩, 18) := ⟨⟨by decide +kernel, by decide +kernel⟩, List.mem_of_getElem? (i := 153) (by decide +kernel), List.mem_of_getElem? (i := 518) (by decide +kernel), List.mem_of_getElem? (i := 519) (by decide +kernel)⟩
theorem lw_p3 : lw_okq (⟨"TermLog$World", "sendOn", "(LTermLog$Node;I)V"⟩, 16) := ⟨⟨by decide +kernel, by decide +kernel⟩, List.mem_of_getElem? (i := 52) (by decide +kernel), List.mem_of_getElem? (i := 572) (by decide +kernel), List.mem_of_getElem? (i := 573) (by decide +kernel)⟩
theorem lw_p4 : lw_okq (⟨"TermLog$World", "spare", "(LTermLog$Node;II)LTermLog$Message;"⟩, 16) := ⟨⟨by decide +kernel, by decide +kernel⟩, List.mem_of_getElem? (i := 52) (by decide +kernel), List.mem_of_getElem? (i := 580) (by decide +kernel), List.mem_of_getElem? (i := 581) (by decide +kernel)⟩
theorem lw_p5 : lw_okq (⟨"TermLog$World", "post", "(LTermLog$Message;)V"⟩, 16) := ⟨⟨by decide +kernel, by decide +kernel⟩, List.mem_of_getElem? (i := 52) (by decide +kernel), List.mem_of_getElem? (i := 596) (by decide +kernel), List.mem_of_getElem? (i := 597) (by decide +kernel)⟩
theorem lw_p6 : lw_okq (⟨"TermLog$World", "lose", "()V"⟩, 16) := ⟨⟨by decide +kernel, by decide +kernel⟩, List.mem_of_getElem? (i := 52) (by decide +kernel), List.mem_of_getElem? (i := 600) (by decide +kernel), List.mem_of_getElem? (i := 601) (by decide +kernel)⟩
theorem lw_p7 : lw_okq (⟨"TermLog$World", "hold", "(LTermLog$Node;)V"⟩, 16) := ⟨⟨by decide +kernel, by decide +kernel⟩, List.mem_of_getElem? (i := 52) (by decide +kernel), List.mem_of_getElem? (i := 612) (by decide +kernel), List.mem_of_getElem? (i := 613) (by decide +kernel)⟩
theorem lw_p8 : lw_okq (⟨"TermLog$Node", "thoseWithMatch", "(I)I"⟩, 18) := ⟨⟨by decide +kernel, by decide +kernel⟩, List.mem_of_getElem? (i := 153) (by decide +kernel), List.mem_of_getElem? (i := 620) (by decide +kernel), List.mem_of_getElem? (i := 621) (by decide +kernel)⟩
theorem lw_p9 : lw_okq (⟨"TermLog$World", "raiseCommit", "(LTermLog$Node;I)V"⟩, 16) := ⟨⟨by decide +kernel, by decide +kernel⟩, List.mem_of_getElem? (i := 52) (by decide +kernel), List.mem_of_getElem? (i := 633) (by decide +kernel), List.mem_of_getElem? (i := 634) (by decide +kernel)⟩
theorem lw_p10 : lw_okq (⟨"TermLog$World", "seeHeld", "(LTermLog$Node;II)V"⟩, 16) := ⟨⟨by decide +kernel, by decide +kernel⟩, List.mem_of_getElem? (i := 52) (by decide +kernel), List.mem_of_getElem? (i := 638) (by decide +kernel), List.mem_of_getElem? (i := 639) (by decide +kernel)⟩
theorem lw_p11 : lw_okq (⟨"TermLog$World", "leave", "(LTermLog$Node;)V"⟩, 16) := ⟨⟨by decide +kernel, by decide +kernel⟩, List.mem_of_getElem? (i := 52) (by decide +kernel), List.mem_of_getElem? (i := 654) (by decide +kernel), List.mem_of_getElem? (i := 655) (by decide +kernel)⟩
theorem lw_p12 : lw_okq (⟨"TermLog$World", "follow", "(LTermLog$Node;I)V"⟩, 16) := ⟨⟨by decide +kernel, by decide +kernel⟩, List.mem_of_getElem? (i := 52) (by decide +kernel), List.mem_of_getElem? (i := 658) (by decide +kernel), List.mem_of_getElem? (i := 659) (by decide +kernel)⟩
theorem lw_p13 : lw_okq (⟨"TermLog$World", "answerReads", "(LTermLog$Node;)V"⟩, 16) := ⟨⟨by decide +kernel, by decide +kernel⟩, List.mem_of_getElem? (i := 52) (by decide +kernel), List.mem_of_getElem? (i := 679) (by decide +kernel), List.mem_of_getElem? (i := 680) (by decide +kernel)⟩
theorem lw_p14 : lw_okq (⟨"TermLog$World", "takeOut", "(I)V"⟩, 16) := ⟨⟨by decide +kernel, by decide +kernel⟩, List.mem_of_getElem? (i := 52) (by decide +kernel), List.mem_of_getElem? (i := 702) (by decide +kernel), List.mem_of_getElem? (i := 703) (by decide +kernel)⟩
theorem lw_p15 : lw_okq (⟨"TermLog$World", "handOver", "(LTermLog$Message;)V"⟩, 16) := ⟨⟨by decide +kernel, by decide +kernel⟩, List.mem_of_getElem? (i := 52) (by decide +kernel), List.mem_of_getElem? (i := 706) (by decide +kernel), List.mem_of_getElem? (i := 707) (by decide +kernel)⟩
def lw_privs_1 : List (MethodName × Nat) := [(⟨"TermLog$World", "draw", "()I"⟩, 16), (⟨"TermLog$World", "loseReads", "(LTermLog$Node;)V"⟩, 16), (⟨"TermLog$Node", "dropUpTo", "(I)V"⟩, 18), (⟨"TermLog$World", "sendOn", "(LTermLog$Node;I)V"⟩, 16), (⟨"TermLog$World", "spare", "(LTermLog$Node;II)LTermLog$Message;"⟩, 16), (⟨"TermLog$World", "post", "(LTermLog$Message;)V"⟩, 16), (⟨"TermLog$World", "lose", "()V"⟩, 16), (⟨"TermLog$World", "hold", "(LTermLog$Node;)V"⟩, 16), (⟨"TermLog$Node", "thoseWithMatch", "(I)I"⟩, 18), (⟨"TermLog$World", "raiseCommit", "(LTermLog$Node;I)V"⟩, 16), (⟨"TermLog$World", "seeHeld", "(LTermLog$Node;II)V"⟩, 16), (⟨"TermLog$World", "leave", "(LTermLog$Node;)V"⟩, 16), (⟨"TermLog$World", "follow", "(LTermLog$Node;I)V"⟩, 16), (⟨"TermLog$World", "answerReads", "(LTermLog$Node;)V"⟩, 16), (⟨"TermLog$World", "takeOut", "(I)V"⟩, 16), (⟨"TermLog$World", "handOver", "(LTermLog$Message;)V"⟩, 16)]
theorem lw_r1 : ∀ q ∈ lw_privs_1, lw_okq q := List.forall_mem_cons.mpr ⟨lw_p0, List.forall_mem_cons.mpr ⟨lw_p1, List.forall_mem_cons.mpr ⟨lw_p2, List.forall_mem_cons.mpr ⟨lw_p3, List.forall_mem_cons.mpr ⟨lw_p4, List.forall_mem_cons.mpr ⟨lw_p5, List.forall_mem_cons.mpr ⟨lw_p6, List.forall_mem_cons.mpr ⟨lw_p7, List.forall_mem_cons.mpr ⟨lw_p8, List.forall_mem_cons.mpr ⟨lw_p9, List.forall_mem_cons.mpr ⟨lw_p10, List.forall_mem_cons.mpr ⟨lw_p11, List.forall_mem_cons.mpr ⟨lw_p12, List.forall_mem_cons.mpr ⟨lw_p13, List.forall_mem_cons.mpr ⟨lw_p14, List.forall_mem_cons.mpr ⟨lw_p15, fun _ h => absurd h List.not_mem_nil⟩⟩⟩⟩⟩⟩⟩⟩⟩⟩⟩⟩⟩⟩⟩⟩
theorem lw_p16 : lw_okq (⟨"TermLog$World", "grantOrNot", "(LTermLog$Node;LTermLog$Message;)V"⟩, 16) := ⟨⟨by decide +kernel, by decide +kernel⟩, List.mem_of_getElem? (i := 52) (by decide +kernel), List.mem_of_getElem? (i := 711) (by decide +kernel), List.mem_of_getElem? (i := 712) (by decide +kernel)⟩
theorem lw_p17 : lw_okq (⟨"TermLog$World", "answer", "(LTermLog$Node;LTermLog$Message;ZII)V"⟩, 16) := ⟨⟨by decide +kernel, by decide +kernel⟩, List.mem_of_getElem? (i := 52) (by decide +kernel), List.mem_of_getElem? (i := 719) (by decide +kernel), List.mem_of_getElem? (i := 720) (by decide +kernel)⟩
theorem lw_p18 : lw_okq (⟨"TermLog$World", "crown", "(LTermLog$Node;)V"⟩, 16) := ⟨⟨by decide +kernel, by decide +kernel⟩, List.mem_of_getElem? (i := 52) (by decide +kernel), List.mem_of_getElem? (i := 728) (by decide +kernel), List.mem_of_getElem? (i := 729) (by decide +kernel)⟩
theorem lw_p19 : lw_okq (⟨"TermLog$World", "takeEntries", "(LTermLog$Node;LTermLog$Message;)V"⟩, 16) := ⟨⟨by decide +kernel, by decide +kernel⟩, List.mem_of_getElem? (i := 52) (by decide +kernel), List.mem_of_getElem? (i := 738) (by decide +kernel), List.mem_of_getElem? (i := 739) (by decide +kernel)⟩
theorem lw_p20 : lw_okq (⟨"TermLog$World", "place", "(LTermLog$Node;II)Z"⟩, 16) := ⟨⟨by decide +kernel, by decide +kernel⟩, List.mem_of_getElem? (i := 52) (by decide +kernel), List.mem_of_getElem? (i := 747) (by decide +kernel), List.mem_of_getElem? (i := 748) (by decide +kernel)⟩
theorem lw_p21 : lw_okq (⟨"TermLog$World", "takeSnapshot", "(LTermLog$Node;LTermLog$Message;)V"⟩, 16) := ⟨⟨by decide +kernel, by decide +kernel⟩, List.mem_of_getElem? (i := 52) (by decide +kernel), List.mem_of_getElem? (i := 760) (by decide +kernel), List.mem_of_getElem? (i := 761) (by decide +kernel)⟩
theorem lw_p22 : lw_okq (⟨"TermLog$World", "hearAnswer", "(LTermLog$Node;LTermLog$Message;)V"⟩, 16) := ⟨⟨by decide +kernel, by decide +kernel⟩, List.mem_of_getElem? (i := 52) (by decide +kernel), List.mem_of_getElem? (i := 769) (by decide +kernel), List.mem_of_getElem? (i := 770) (by decide +kernel)⟩
theorem lw_p23 : lw_okq (⟨"TermLog$World", "beat", "(LTermLog$Node;)V"⟩, 16) := ⟨⟨by decide +kernel, by decide +kernel⟩, List.mem_of_getElem? (i := 52) (by decide +kernel), List.mem_of_getElem? (i := 774) (by decide +kernel), List.mem_of_getElem? (i := 775) (by decide +kernel)⟩
theorem lw_p24 : lw_okq (⟨"TermLog$World", "stand", "(LTermLog$Node;)V"⟩, 16) := ⟨⟨by decide +kernel, by decide +kernel⟩, List.mem_of_getElem? (i := 52) (by decide +kernel), List.mem_of_getElem? (i := 778) (by decide +kernel), List.mem_of_getElem? (i := 779) (by decide +kernel)⟩
theorem lw_p25 : lw_okq (⟨"TermLog$World", "callForVotes", "(LTermLog$Node;)V"⟩, 16) := ⟨⟨by decide +kernel, by decide +kernel⟩, List.mem_of_getElem? (i := 52) (by decide +kernel), List.mem_of_getElem? (i := 792) (by decide +kernel), List.mem_of_getElem? (i := 793) (by decide +kernel)⟩
theorem lw_p26 : lw_okq (⟨"TermLog", "layOnTape", "(I)V"⟩, 9) := ⟨⟨by decide +kernel, by decide +kernel⟩, List.mem_of_getElem? (i := 16) (by decide +kernel), List.mem_of_getElem? (i := 832) (by decide +kernel), List.mem_of_getElem? (i := 833) (by decide +kernel)⟩
theorem lw_p27 : lw_okq (⟨"TermLog$LawReader", "readRule", "()V"⟩, 5) := ⟨⟨by decide +kernel, by decide +kernel⟩, List.mem_of_getElem? (i := 341) (by decide +kernel), List.mem_of_getElem? (i := 849) (by decide +kernel), List.mem_of_getElem? (i := 850) (by decide +kernel)⟩
theorem lw_p28 : lw_okq (⟨"TermLog$LawReader", "sign", "()I"⟩, 5) := ⟨⟨by decide +kernel, by decide +kernel⟩, List.mem_of_getElem? (i := 341) (by decide +kernel), List.mem_of_getElem? (i := 853) (by decide +kernel), List.mem_of_getElem? (i := 854) (by decide +kernel)⟩
theorem lw_p29 : lw_okq (⟨"TermLog$LawReader", "fail", "(I)V"⟩, 5) := ⟨⟨by decide +kernel, by decide +kernel⟩, List.mem_of_getElem? (i := 341) (by decide +kernel), List.mem_of_getElem? (i := 857) (by decide +kernel), List.mem_of_getElem? (i := 858) (by decide +kernel)⟩
theorem lw_p30 : lw_okq (⟨"TermLog$LawReader", "readSum", "(I)V"⟩, 5) := ⟨⟨by decide +kernel, by decide +kernel⟩, List.mem_of_getElem? (i := 341) (by decide +kernel), List.mem_of_getElem? (i := 865) (by decide +kernel), List.mem_of_getElem? (i := 866) (by decide +kernel)⟩
theorem lw_p31 : lw_okq (⟨"TermLog$LawReader", "readProduct", "(I)V"⟩, 5) := ⟨⟨by decide +kernel, by decide +kernel⟩, List.mem_of_getElem? (i := 341) (by decide +kernel), List.mem_of_getElem? (i := 869) (by decide +kernel), List.mem_of_getElem? (i := 870) (by decide +kernel)⟩
def lw_privs_2 : List (MethodName × Nat) := [(⟨"TermLog$World", "grantOrNot", "(LTermLog$Node;LTermLog$Message;)V"⟩, 16), (⟨"TermLog$World", "answer", "(LTermLog$Node;LTermLog$Message;ZII)V"⟩, 16), (⟨"TermLog$World", "crown", "(LTermLog$Node;)V"⟩, 16), (⟨"TermLog$World", "takeEntries", "(LTermLog$Node;LTermLog$Message;)V"⟩, 16), (⟨"TermLog$World", "place", "(LTermLog$Node;II)Z"⟩, 16), (⟨"TermLog$World", "takeSnapshot", "(LTermLog$Node;LTermLog$Message;)V"⟩, 16), (⟨"TermLog$World", "hearAnswer", "(LTermLog$Node;LTermLog$Message;)V"⟩, 16), (⟨"TermLog$World", "beat", "(LTermLog$Node;)V"⟩, 16), (⟨"TermLog$World", "stand", "(LTermLog$Node;)V"⟩, 16), (⟨"TermLog$World", "callForVotes", "(LTermLog$Node;)V"⟩, 16), (⟨"TermLog", "layOnTape", "(I)V"⟩, 9), (⟨"TermLog$LawReader", "readRule", "()V"⟩, 5), (⟨"TermLog$LawReader", "sign", "()I"⟩, 5), (⟨"TermLog$LawReader", "fail", "(I)V"⟩, 5), (⟨"TermLog$LawReader", "readSum", "(I)V"⟩, 5), (⟨"TermLog$LawReader", "readProduct", "(I)V"⟩, 5)]
theorem lw_r2 : ∀ q ∈ lw_privs_2, lw_okq q := List.forall_mem_cons.mpr ⟨lw_p16, List.forall_mem_cons.mpr ⟨lw_p17, List.forall_mem_cons.mpr ⟨lw_p18, List.forall_mem_cons.mpr ⟨lw_p19, List.forall_mem_cons.mpr ⟨lw_p20, List.forall_mem_cons.mpr ⟨lw_p21, List.forall_mem_cons.mpr ⟨lw_p22, List.forall_mem_cons.mpr ⟨lw_p23, List.forall_mem_cons.mpr ⟨lw_p24, List.forall_mem_cons.mpr ⟨lw_p25, List.forall_mem_cons.mpr ⟨lw_p26, List.forall_mem_cons.mpr ⟨lw_p27, List.forall_mem_cons.mpr ⟨lw_p28, List.forall_mem_cons.mpr ⟨lw_p29, List.forall_mem_cons.mpr ⟨lw_p30, List.forall_mem_cons.mpr ⟨lw_p31, fun _ h => absurd h List.not_mem_nil⟩⟩⟩⟩⟩⟩⟩⟩⟩⟩⟩⟩⟩⟩⟩⟩
theorem lw_p32 : lw_okq (⟨"TermLog$LawReader", "readFactor", "(I)V"⟩, 5) := ⟨⟨by decide +kernel, by decide +kernel⟩, List.mem_of_getElem? (i := 341) (by decide +kernel), List.mem_of_getElem? (i := 873) (by decide +kernel), List.mem_of_getElem? (i := 874) (by decide +kernel)⟩
theorem lw_p33 : lw_okq (⟨"TermLog$LawReader", "expect", "(I)V"⟩, 5) := ⟨⟨by decide +kernel, by decide +kernel⟩, List.mem_of_getElem? (i := 341) (by decide +kernel), List.mem_of_getElem? (i := 877) (by decide +kernel), List.mem_of_getElem? (i := 878) (by decide +kernel)⟩
theorem lw_p34 : lw_okq (⟨"TermLog$LawReader", "readNumber", "()V"⟩, 5) := ⟨⟨by decide +kernel, by decide +kernel⟩, List.mem_of_getElem? (i := 341) (by decide +kernel), List.mem_of_getElem? (i := 884) (by decide +kernel), List.mem_of_getElem? (i := 885) (by decide +kernel)⟩
theorem lw_p35 : lw_okq (⟨"TermLog$LawReader", "isNext", "(III)Z"⟩, 5) := ⟨⟨by decide +kernel, by decide +kernel⟩, List.mem_of_getElem? (i := 341) (by decide +kernel), List.mem_of_getElem? (i := 891) (by decide +kernel), List.mem_of_getElem? (i := 892) (by decide +kernel)⟩
theorem lw_p36 : lw_okq (⟨"TermLog$LawReader", "readParts", "(I)V"⟩, 5) := ⟨⟨by decide +kernel, by decide +kernel⟩, List.mem_of_getElem? (i := 341) (by decide +kernel), List.mem_of_getElem? (i := 895) (by decide +kernel), List.mem_of_getElem? (i := 896) (by decide +kernel)⟩
theorem lw_p37 : lw_okq (⟨"TermLog$LawReader", "readTests", "(I)V"⟩, 5) := ⟨⟨by decide +kernel, by decide +kernel⟩, List.mem_of_getElem? (i := 341) (by decide +kernel), List.mem_of_getElem? (i := 899) (by decide +kernel), List.mem_of_getElem? (i := 900) (by decide +kernel)⟩
theorem lw_p38 : lw_okq (⟨"TermLog$LawReader", "readTest", "(I)V"⟩, 5) := ⟨⟨by decide +kernel, by decide +kernel⟩, List.mem_of_getElem? (i := 341) (by decide +kernel), List.mem_of_getElem? (i := 903) (by decide +kernel), List.mem_of_getElem? (i := 904) (by decide +kernel)⟩
theorem lw_p39 : lw_okq (⟨"TermLog$LawReader", "readOpened", "(I)V"⟩, 5) := ⟨⟨by decide +kernel, by decide +kernel⟩, List.mem_of_getElem? (i := 341) (by decide +kernel), List.mem_of_getElem? (i := 907) (by decide +kernel), List.mem_of_getElem? (i := 908) (by decide +kernel)⟩
theorem lw_p40 : lw_okq (⟨"TermLog$PlanReader", "readAct", "(I)V"⟩, 6) := ⟨⟨by decide +kernel, by decide +kernel⟩, List.mem_of_getElem? (i := 366) (by decide +kernel), List.mem_of_getElem? (i := 929) (by decide +kernel), List.mem_of_getElem? (i := 930) (by decide +kernel)⟩
theorem lw_p41 : lw_okq (⟨"TermLog$PlanReader", "sign", "()I"⟩, 6) := ⟨⟨by decide +kernel, by decide +kernel⟩, List.mem_of_getElem? (i := 366) (by decide +kernel), List.mem_of_getElem? (i := 933) (by decide +kernel), List.mem_of_getElem? (i := 934) (by decide +kernel)⟩
theorem lw_p42 : lw_okq (⟨"TermLog$PlanReader", "readGroup", "(I)V"⟩, 6) := ⟨⟨by decide +kernel, by decide +kernel⟩, List.mem_of_getElem? (i := 366) (by decide +kernel), List.mem_of_getElem? (i := 937) (by decide +kernel), List.mem_of_getElem? (i := 938) (by decide +kernel)⟩
theorem lw_p43 : lw_okq (⟨"TermLog$PlanReader", "fail", "(II)V"⟩, 6) := ⟨⟨by decide +kernel, by decide +kernel⟩, List.mem_of_getElem? (i := 366) (by decide +kernel), List.mem_of_getElem? (i := 941) (by decide +kernel), List.mem_of_getElem? (i := 942) (by decide +kernel)⟩
theorem lw_p44 : lw_okq (⟨"TermLog$PlanReader", "readSingle", "(I)V"⟩, 6) := ⟨⟨by decide +kernel, by decide +kernel⟩, List.mem_of_getElem? (i := 366) (by decide +kernel), List.mem_of_getElem? (i := 945) (by decide +kernel), List.mem_of_getElem? (i := 946) (by decide +kernel)⟩
theorem lw_p45 : lw_okq (⟨"TermLog$PlanReader", "repeat", "(III)V"⟩, 6) := ⟨⟨by decide +kernel, by decide +kernel⟩, List.mem_of_getElem? (i := 366) (by decide +kernel), List.mem_of_getElem? (i := 958) (by decide +kernel), List.mem_of_getElem? (i := 959) (by decide +kernel)⟩
theorem lw_p46 : lw_okq (⟨"TermLog", "perform", "(I)Z"⟩, 9) := ⟨⟨by decide +kernel, by decide +kernel⟩, List.mem_of_getElem? (i := 16) (by decide +kernel), List.mem_of_getElem? (i := 965) (by decide +kernel), List.mem_of_getElem? (i := 966) (by decide +kernel)⟩
theorem lw_p47 : lw_okq (⟨"TermLog$World", "wouldGrant", "(LTermLog$Node;LTermLog$Node;)Z"⟩, 16) := ⟨⟨by decide +kernel, by decide +kernel⟩, List.mem_of_getElem? (i := 52) (by decide +kernel), List.mem_of_getElem? (i := 1079) (by decide +kernel), List.mem_of_getElem? (i := 1080) (by decide +kernel)⟩
def lw_privs_3 : List (MethodName × Nat) := [(⟨"TermLog$LawReader", "readFactor", "(I)V"⟩, 5), (⟨"TermLog$LawReader", "expect", "(I)V"⟩, 5), (⟨"TermLog$LawReader", "readNumber", "()V"⟩, 5), (⟨"TermLog$LawReader", "isNext", "(III)Z"⟩, 5), (⟨"TermLog$LawReader", "readParts", "(I)V"⟩, 5), (⟨"TermLog$LawReader", "readTests", "(I)V"⟩, 5), (⟨"TermLog$LawReader", "readTest", "(I)V"⟩, 5), (⟨"TermLog$LawReader", "readOpened", "(I)V"⟩, 5), (⟨"TermLog$PlanReader", "readAct", "(I)V"⟩, 6), (⟨"TermLog$PlanReader", "sign", "()I"⟩, 6), (⟨"TermLog$PlanReader", "readGroup", "(I)V"⟩, 6), (⟨"TermLog$PlanReader", "fail", "(II)V"⟩, 6), (⟨"TermLog$PlanReader", "readSingle", "(I)V"⟩, 6), (⟨"TermLog$PlanReader", "repeat", "(III)V"⟩, 6), (⟨"TermLog", "perform", "(I)Z"⟩, 9), (⟨"TermLog$World", "wouldGrant", "(LTermLog$Node;LTermLog$Node;)Z"⟩, 16)]
theorem lw_r3 : ∀ q ∈ lw_privs_3, lw_okq q := List.forall_mem_cons.mpr ⟨lw_p32, List.forall_mem_cons.mpr ⟨lw_p33, List.forall_mem_cons.mpr ⟨lw_p34, List.forall_mem_cons.mpr ⟨lw_p35, List.forall_mem_cons.mpr ⟨lw_p36, List.forall_mem_cons.mpr ⟨lw_p37, List.forall_mem_cons.mpr ⟨lw_p38, List.forall_mem_cons.mpr ⟨lw_p39, List.forall_mem_cons.mpr ⟨lw_p40, List.forall_mem_cons.mpr ⟨lw_p41, List.forall_mem_cons.mpr ⟨lw_p42, List.forall_mem_cons.mpr ⟨lw_p43, List.forall_mem_cons.mpr ⟨lw_p44, List.forall_mem_cons.mpr ⟨lw_p45, List.forall_mem_cons.mpr ⟨lw_p46, List.forall_mem_cons.mpr ⟨lw_p47, fun _ h => absurd h List.not_mem_nil⟩⟩⟩⟩⟩⟩⟩⟩⟩⟩⟩⟩⟩⟩⟩⟩
theorem lw_p48 : lw_okq (⟨"TermLog", "hasCome", "(LTermLog$World;I)Z"⟩, 9) := ⟨⟨by decide +kernel, by decide +kernel⟩, List.mem_of_getElem? (i := 16) (by decide +kernel), List.mem_of_getElem? (i := 1092) (by decide +kernel), List.mem_of_getElem? (i := 1093) (by decide +kernel)⟩
theorem lw_p49 : lw_okq (⟨"TermLogModel", "founds", "(I)V"⟩, 45) := ⟨⟨by decide +kernel, by decide +kernel⟩, List.mem_of_getElem? (i := 1113) (by decide +kernel), List.mem_of_getElem? (i := 1119) (by decide +kernel), List.mem_of_getElem? (i := 1120) (by decide +kernel)⟩
theorem lw_p50 : lw_okq (⟨"TermLogModel", "sets", "(III)V"⟩, 45) := ⟨⟨by decide +kernel, by decide +kernel⟩, List.mem_of_getElem? (i := 1113) (by decide +kernel), List.mem_of_getElem? (i := 1123) (by decide +kernel), List.mem_of_getElem? (i := 1124) (by decide +kernel)⟩
theorem lw_p51 : lw_okq (⟨"TermLogModel", "setsTimer", "(I)V"⟩, 45) := ⟨⟨by decide +kernel, by decide +kernel⟩, List.mem_of_getElem? (i := 1113) (by decide +kernel), List.mem_of_getElem? (i := 1127) (by decide +kernel), List.mem_of_getElem? (i := 1128) (by decide +kernel)⟩
theorem lw_p52 : lw_okq (⟨"TermLogModel", "feels", "(III)I"⟩, 45) := ⟨⟨by decide +kernel, by decide +kernel⟩, List.mem_of_getElem? (i := 1113) (by decide +kernel), List.mem_of_getElem? (i := 1131) (by decide +kernel), List.mem_of_getElem? (i := 1132) (by decide +kernel)⟩
theorem lw_p53 : lw_okq (⟨"TermLogModel", "the", "(II)I"⟩, 45) := ⟨⟨by decide +kernel, by decide +kernel⟩, List.mem_of_getElem? (i := 1113) (by decide +kernel), List.mem_of_getElem? (i := 1136) (by decide +kernel), List.mem_of_getElem? (i := 1137) (by decide +kernel)⟩
theorem lw_p54 : lw_okq (⟨"TermLogModel", "byLaw", "(IIII)I"⟩, 45) := ⟨⟨by decide +kernel, by decide +kernel⟩, List.mem_of_getElem? (i := 1113) (by decide +kernel), List.mem_of_getElem? (i := 1140) (by decide +kernel), List.mem_of_getElem? (i := 1141) (by decide +kernel)⟩
theorem lw_p55 : lw_okq (⟨"TermLogModel", "reckonsTo", "(II)I"⟩, 45) := ⟨⟨by decide +kernel, by decide +kernel⟩, List.mem_of_getElem? (i := 1113) (by decide +kernel), List.mem_of_getElem? (i := 1144) (by decide +kernel), List.mem_of_getElem? (i := 1145) (by decide +kernel)⟩
theorem lw_p56 : lw_okq (⟨"TermLogModel", "types", "(I)V"⟩, 45) := ⟨⟨by decide +kernel, by decide +kernel⟩, List.mem_of_getElem? (i := 1113) (by decide +kernel), List.mem_of_getElem? (i := 1293) (by decide +kernel), List.mem_of_getElem? (i := 1294) (by decide +kernel)⟩
theorem lw_p57 : lw_okq (⟨"TermLogModel", "beginsText", "(I)V"⟩, 45) := ⟨⟨by decide +kernel, by decide +kernel⟩, List.mem_of_getElem? (i := 1113) (by decide +kernel), List.mem_of_getElem? (i := 1304) (by decide +kernel), List.mem_of_getElem? (i := 1305) (by decide +kernel)⟩
theorem lw_p58 : lw_okq (⟨"TermLogModel", "readsRule", "()Z"⟩, 45) := ⟨⟨by decide +kernel, by decide +kernel⟩, List.mem_of_getElem? (i := 1113) (by decide +kernel), List.mem_of_getElem? (i := 1308) (by decide +kernel), List.mem_of_getElem? (i := 1309) (by decide +kernel)⟩
theorem lw_p59 : lw_okq (⟨"TermLogModel", "here", "()I"⟩, 45) := ⟨⟨by decide +kernel, by decide +kernel⟩, List.mem_of_getElem? (i := 1113) (by decide +kernel), List.mem_of_getElem? (i := 1312) (by decide +kernel), List.mem_of_getElem? (i := 1313) (by decide +kernel)⟩
theorem lw_p60 : lw_okq (⟨"TermLogModel", "wrongAt", "(II)Z"⟩, 45) := ⟨⟨by decide +kernel, by decide +kernel⟩, List.mem_of_getElem? (i := 1113) (by decide +kernel), List.mem_of_getElem? (i := 1316) (by decide +kernel), List.mem_of_getElem? (i := 1317) (by decide +kernel)⟩
theorem lw_p61 : lw_okq (⟨"TermLogModel", "readsSum", "()Z"⟩, 45) := ⟨⟨by decide +kernel, by decide +kernel⟩, List.mem_of_getElem? (i := 1113) (by decide +kernel), List.mem_of_getElem? (i := 1320) (by decide +kernel), List.mem_of_getElem? (i := 1321) (by decide +kernel)⟩
theorem lw_p62 : lw_okq (⟨"TermLogModel", "readsFactor", "()Z"⟩, 45) := ⟨⟨by decide +kernel, by decide +kernel⟩, List.mem_of_getElem? (i := 1113) (by decide +kernel), List.mem_of_getElem? (i := 1324) (by decide +kernel), List.mem_of_getElem? (i := 1325) (by decide +kernel)⟩
theorem lw_p63 : lw_okq (⟨"TermLogModel", "opens", "(I)Z"⟩, 45) := ⟨⟨by decide +kernel, by decide +kernel⟩, List.mem_of_getElem? (i := 1113) (by decide +kernel), List.mem_of_getElem? (i := 1328) (by decide +kernel), List.mem_of_getElem? (i := 1329) (by decide +kernel)⟩
def lw_privs_4 : List (MethodName × Nat) := [(⟨"TermLog", "hasCome", "(LTermLog$World;I)Z"⟩, 9), (⟨"TermLogModel", "founds", "(I)V"⟩, 45), (⟨"TermLogModel", "sets", "(III)V"⟩, 45), (⟨"TermLogModel", "setsTimer", "(I)V"⟩, 45), (⟨"TermLogModel", "feels", "(III)I"⟩, 45), (⟨"TermLogModel", "the", "(II)I"⟩, 45), (⟨"TermLogModel", "byLaw", "(IIII)I"⟩, 45), (⟨"TermLogModel", "reckonsTo", "(II)I"⟩, 45), (⟨"TermLogModel", "types", "(I)V"⟩, 45), (⟨"TermLogModel", "beginsText", "(I)V"⟩, 45), (⟨"TermLogModel", "readsRule", "()Z"⟩, 45), (⟨"TermLogModel", "here", "()I"⟩, 45), (⟨"TermLogModel", "wrongAt", "(II)Z"⟩, 45), (⟨"TermLogModel", "readsSum", "()Z"⟩, 45), (⟨"TermLogModel", "readsFactor", "()Z"⟩, 45), (⟨"TermLogModel", "opens", "(I)Z"⟩, 45)]
theorem lw_r4 : ∀ q ∈ lw_privs_4, lw_okq q := List.forall_mem_cons.mpr ⟨lw_p48, List.forall_mem_cons.mpr ⟨lw_p49, List.forall_mem_cons.mpr ⟨lw_p50, List.forall_mem_cons.mpr ⟨lw_p51, List.forall_mem_cons.mpr ⟨lw_p52, List.forall_mem_cons.mpr ⟨lw_p53, List.forall_mem_cons.mpr ⟨lw_p54, List.forall_mem_cons.mpr ⟨lw_p55, List.forall_mem_cons.mpr ⟨lw_p56, List.forall_mem_cons.mpr ⟨lw_p57, List.forall_mem_cons.mpr ⟨lw_p58, List.forall_mem_cons.mpr ⟨lw_p59, List.forall_mem_cons.mpr ⟨lw_p60, List.forall_mem_cons.mpr ⟨lw_p61, List.forall_mem_cons.mpr ⟨lw_p62, List.forall_mem_cons.mpr ⟨lw_p63, fun _ h => absurd h List.not_mem_nil⟩⟩⟩⟩⟩⟩⟩⟩⟩⟩⟩⟩⟩⟩⟩⟩
theorem lw_p64 : lw_okq (⟨"TermLogModel", "isDigit", "()Z"⟩, 45) := ⟨⟨by decide +kernel, by decide +kernel⟩, List.mem_of_getElem? (i := 1113) (by decide +kernel), List.mem_of_getElem? (i := 1332) (by decide +kernel), List.mem_of_getElem? (i := 1333) (by decide +kernel)⟩
theorem lw_p65 : lw_okq (⟨"TermLogModel", "readsNumber", "()Z"⟩, 45) := ⟨⟨by decide +kernel, by decide +kernel⟩, List.mem_of_getElem? (i := 1113) (by decide +kernel), List.mem_of_getElem? (i := 1336) (by decide +kernel), List.mem_of_getElem? (i := 1337) (by decide +kernel)⟩
theorem lw_p66 : lw_okq (⟨"TermLogModel", "notes", "(II)V"⟩, 45) := ⟨⟨by decide +kernel, by decide +kernel⟩, List.mem_of_getElem? (i := 1113) (by decide +kernel), List.mem_of_getElem? (i := 1340) (by decide +kernel), List.mem_of_getElem? (i := 1341) (by decide +kernel)⟩
theorem lw_p67 : lw_okq (⟨"TermLogModel", "closesSums", "(Z)V"⟩, 45) := ⟨⟨by decide +kernel, by decide +kernel⟩, List.mem_of_getElem? (i := 1113) (by decide +kernel), List.mem_of_getElem? (i := 1350) (by decide +kernel), List.mem_of_getElem? (i := 1351) (by decide +kernel)⟩
theorem lw_p68 : lw_okq (⟨"TermLogModel", "waitTop", "()I"⟩, 45) := ⟨⟨by decide +kernel, by decide +kernel⟩, List.mem_of_getElem? (i := 1113) (by decide +kernel), List.mem_of_getElem? (i := 1354) (by decide +kernel), List.mem_of_getElem? (i := 1355) (by decide +kernel)⟩
theorem lw_p69 : lw_okq (⟨"TermLogModel", "hasOpenSum", "(I)Z"⟩, 45) := ⟨⟨by decide +kernel, by decide +kernel⟩, List.mem_of_getElem? (i := 1113) (by decide +kernel), List.mem_of_getElem? (i := 1358) (by decide +kernel), List.mem_of_getElem? (i := 1359) (by decide +kernel)⟩
theorem lw_p70 : lw_okq (⟨"TermLogModel", "readsCondition", "()Z"⟩, 45) := ⟨⟨by decide +kernel, by decide +kernel⟩, List.mem_of_getElem? (i := 1113) (by decide +kernel), List.mem_of_getElem? (i := 1362) (by decide +kernel), List.mem_of_getElem? (i := 1363) (by decide +kernel)⟩
theorem lw_p71 : lw_okq (⟨"TermLogModel", "readsCompared", "()Z"⟩, 45) := ⟨⟨by decide +kernel, by decide +kernel⟩, List.mem_of_getElem? (i := 1113) (by decide +kernel), List.mem_of_getElem? (i := 1366) (by decide +kernel), List.mem_of_getElem? (i := 1367) (by decide +kernel)⟩
theorem lw_p72 : lw_okq (⟨"TermLogModel", "endsPiece", "()V"⟩, 45) := ⟨⟨by decide +kernel, by decide +kernel⟩, List.mem_of_getElem? (i := 1113) (by decide +kernel), List.mem_of_getElem? (i := 1370) (by decide +kernel), List.mem_of_getElem? (i := 1371) (by decide +kernel)⟩
theorem lw_p73 : lw_okq (⟨"TermLogModel", "lands", "(Z)V"⟩, 45) := ⟨⟨by decide +kernel, by decide +kernel⟩, List.mem_of_getElem? (i := 1113) (by decide +kernel), List.mem_of_getElem? (i := 1374) (by decide +kernel), List.mem_of_getElem? (i := 1375) (by decide +kernel)⟩
theorem lw_p74 : lw_okq (⟨"TermLogModel", "jumps", "(I)V"⟩, 45) := ⟨⟨by decide +kernel, by decide +kernel⟩, List.mem_of_getElem? (i := 1113) (by decide +kernel), List.mem_of_getElem? (i := 1378) (by decide +kernel), List.mem_of_getElem? (i := 1379) (by decide +kernel)⟩
theorem lw_p75 : lw_okq (⟨"TermLogModel", "takes", "(I)Z"⟩, 45) := ⟨⟨by decide +kernel, by decide +kernel⟩, List.mem_of_getElem? (i := 1113) (by decide +kernel), List.mem_of_getElem? (i := 1382) (by decide +kernel), List.mem_of_getElem? (i := 1383) (by decide +kernel)⟩
theorem lw_p76 : lw_okq (⟨"TermLogModel", "ticksGo", "(I)V"⟩, 45) := ⟨⟨by decide +kernel, by decide +kernel⟩, List.mem_of_getElem? (i := 1113) (by decide +kernel), List.mem_of_getElem? (i := 1390) (by decide +kernel), List.mem_of_getElem? (i := 1391) (by decide +kernel)⟩
theorem lw_p77 : lw_okq (⟨"TermLogModel", "oneTick", "()Z"⟩, 45) := ⟨⟨by decide +kernel, by decide +kernel⟩, List.mem_of_getElem? (i := 1113) (by decide +kernel), List.mem_of_getElem? (i := 1394) (by decide +kernel), List.mem_of_getElem? (i := 1395) (by decide +kernel)⟩
theorem lw_p78 : lw_okq (⟨"TermLogModel", "tickGoes", "()V"⟩, 45) := ⟨⟨by decide +kernel, by decide +kernel⟩, List.mem_of_getElem? (i := 1113) (by decide +kernel), List.mem_of_getElem? (i := 1398) (by decide +kernel), List.mem_of_getElem? (i := 1399) (by decide +kernel)⟩
theorem lw_p79 : lw_okq (⟨"TermLogModel", "takesDue", "()Z"⟩, 45) := ⟨⟨by decide +kernel, by decide +kernel⟩, List.mem_of_getElem? (i := 1113) (by decide +kernel), List.mem_of_getElem? (i := 1402) (by decide +kernel), List.mem_of_getElem? (i := 1403) (by decide +kernel)⟩
def lw_privs_5 : List (MethodName × Nat) := [(⟨"TermLogModel", "isDigit", "()Z"⟩, 45), (⟨"TermLogModel", "readsNumber", "()Z"⟩, 45), (⟨"TermLogModel", "notes", "(II)V"⟩, 45), (⟨"TermLogModel", "closesSums", "(Z)V"⟩, 45), (⟨"TermLogModel", "waitTop", "()I"⟩, 45), (⟨"TermLogModel", "hasOpenSum", "(I)Z"⟩, 45), (⟨"TermLogModel", "readsCondition", "()Z"⟩, 45), (⟨"TermLogModel", "readsCompared", "()Z"⟩, 45), (⟨"TermLogModel", "endsPiece", "()V"⟩, 45), (⟨"TermLogModel", "lands", "(Z)V"⟩, 45), (⟨"TermLogModel", "jumps", "(I)V"⟩, 45), (⟨"TermLogModel", "takes", "(I)Z"⟩, 45), (⟨"TermLogModel", "ticksGo", "(I)V"⟩, 45), (⟨"TermLogModel", "oneTick", "()Z"⟩, 45), (⟨"TermLogModel", "tickGoes", "()V"⟩, 45), (⟨"TermLogModel", "takesDue", "()Z"⟩, 45)]
theorem lw_r5 : ∀ q ∈ lw_privs_5, lw_okq q := List.forall_mem_cons.mpr ⟨lw_p64, List.forall_mem_cons.mpr ⟨lw_p65, List.forall_mem_cons.mpr ⟨lw_p66, List.forall_mem_cons.mpr ⟨lw_p67, List.forall_mem_cons.mpr ⟨lw_p68, List.forall_mem_cons.mpr ⟨lw_p69, List.forall_mem_cons.mpr ⟨lw_p70, List.forall_mem_cons.mpr ⟨lw_p71, List.forall_mem_cons.mpr ⟨lw_p72, List.forall_mem_cons.mpr ⟨lw_p73, List.forall_mem_cons.mpr ⟨lw_p74, List.forall_mem_cons.mpr ⟨lw_p75, List.forall_mem_cons.mpr ⟨lw_p76, List.forall_mem_cons.mpr ⟨lw_p77, List.forall_mem_cons.mpr ⟨lw_p78, List.forall_mem_cons.mpr ⟨lw_p79, fun _ h => absurd h List.not_mem_nil⟩⟩⟩⟩⟩⟩⟩⟩⟩⟩⟩⟩⟩⟩⟩⟩
theorem lw_p80 : lw_okq (⟨"TermLogModel", "isHanded", "()V"⟩, 45) := ⟨⟨by decide +kernel, by decide +kernel⟩, List.mem_of_getElem? (i := 1113) (by decide +kernel), List.mem_of_getElem? (i := 1406) (by decide +kernel), List.mem_of_getElem? (i := 1407) (by decide +kernel)⟩
theorem lw_p81 : lw_okq (⟨"TermLogModel", "isUp", "(I)Z"⟩, 45) := ⟨⟨by decide +kernel, by decide +kernel⟩, List.mem_of_getElem? (i := 1113) (by decide +kernel), List.mem_of_getElem? (i := 1410) (by decide +kernel), List.mem_of_getElem? (i := 1411) (by decide +kernel)⟩
theorem lw_p82 : lw_okq (⟨"TermLogModel", "areLinked", "(II)Z"⟩, 45) := ⟨⟨by decide +kernel, by decide +kernel⟩, List.mem_of_getElem? (i := 1113) (by decide +kernel), List.mem_of_getElem? (i := 1417) (by decide +kernel), List.mem_of_getElem? (i := 1418) (by decide +kernel)⟩
theorem lw_p83 : lw_okq (⟨"TermLogModel", "loses", "()V"⟩, 45) := ⟨⟨by decide +kernel, by decide +kernel⟩, List.mem_of_getElem? (i := 1113) (by decide +kernel), List.mem_of_getElem? (i := 1424) (by decide +kernel), List.mem_of_getElem? (i := 1425) (by decide +kernel)⟩
theorem lw_p84 : lw_okq (⟨"TermLogModel", "follows", "(II)V"⟩, 45) := ⟨⟨by decide +kernel, by decide +kernel⟩, List.mem_of_getElem? (i := 1113) (by decide +kernel), List.mem_of_getElem? (i := 1432) (by decide +kernel), List.mem_of_getElem? (i := 1433) (by decide +kernel)⟩
theorem lw_p85 : lw_okq (⟨"TermLogModel", "losesReads", "(I)V"⟩, 45) := ⟨⟨by decide +kernel, by decide +kernel⟩, List.mem_of_getElem? (i := 1113) (by decide +kernel), List.mem_of_getElem? (i := 1436) (by decide +kernel), List.mem_of_getElem? (i := 1437) (by decide +kernel)⟩
theorem lw_p86 : lw_okq (⟨"TermLogModel", "isAskedToVote", "(I)V"⟩, 45) := ⟨⟨by decide +kernel, by decide +kernel⟩, List.mem_of_getElem? (i := 1113) (by decide +kernel), List.mem_of_getElem? (i := 1440) (by decide +kernel), List.mem_of_getElem? (i := 1441) (by decide +kernel)⟩
theorem lw_p87 : lw_okq (⟨"TermLogModel", "isNoLess", "(III)Z"⟩, 45) := ⟨⟨by decide +kernel, by decide +kernel⟩, List.mem_of_getElem? (i := 1113) (by decide +kernel), List.mem_of_getElem? (i := 1444) (by decide +kernel), List.mem_of_getElem? (i := 1445) (by decide +kernel)⟩
theorem lw_p88 : lw_okq (⟨"TermLogModel", "lastOf", "(I)I"⟩, 45) := ⟨⟨by decide +kernel, by decide +kernel⟩, List.mem_of_getElem? (i := 1113) (by decide +kernel), List.mem_of_getElem? (i := 1448) (by decide +kernel), List.mem_of_getElem? (i := 1449) (by decide +kernel)⟩
theorem lw_p89 : lw_okq (⟨"TermLogModel", "termAt", "(II)I"⟩, 45) := ⟨⟨by decide +kernel, by decide +kernel⟩, List.mem_of_getElem? (i := 1113) (by decide +kernel), List.mem_of_getElem? (i := 1452) (by decide +kernel), List.mem_of_getElem? (i := 1453) (by decide +kernel)⟩
theorem lw_p90 : lw_okq (⟨"TermLogModel", "logPlace", "(II)I"⟩, 45) := ⟨⟨by decide +kernel, by decide +kernel⟩, List.mem_of_getElem? (i := 1113) (by decide +kernel), List.mem_of_getElem? (i := 1456) (by decide +kernel), List.mem_of_getElem? (i := 1457) (by decide +kernel)⟩
theorem lw_p91 : lw_okq (⟨"TermLogModel", "answersBy", "(IIII)V"⟩, 45) := ⟨⟨by decide +kernel, by decide +kernel⟩, List.mem_of_getElem? (i := 1113) (by decide +kernel), List.mem_of_getElem? (i := 1460) (by decide +kernel), List.mem_of_getElem? (i := 1461) (by decide +kernel)⟩
theorem lw_p92 : lw_okq (⟨"TermLogModel", "beginsMail", "(III)V"⟩, 45) := ⟨⟨by decide +kernel, by decide +kernel⟩, List.mem_of_getElem? (i := 1113) (by decide +kernel), List.mem_of_getElem? (i := 1464) (by decide +kernel), List.mem_of_getElem? (i := 1465) (by decide +kernel)⟩
theorem lw_p93 : lw_okq (⟨"TermLogModel", "posts", "()V"⟩, 45) := ⟨⟨by decide +kernel, by decide +kernel⟩, List.mem_of_getElem? (i := 1113) (by decide +kernel), List.mem_of_getElem? (i := 1468) (by decide +kernel), List.mem_of_getElem? (i := 1469) (by decide +kernel)⟩
theorem lw_p94 : lw_okq (⟨"TermLogModel", "holdsAny", "(I)Z"⟩, 45) := ⟨⟨by decide +kernel, by decide +kernel⟩, List.mem_of_getElem? (i := 1113) (by decide +kernel), List.mem_of_getElem? (i := 1472) (by decide +kernel), List.mem_of_getElem? (i := 1473) (by decide +kernel)⟩
theorem lw_p95 : lw_okq (⟨"TermLogModel", "hasVote", "(I)V"⟩, 45) := ⟨⟨by decide +kernel, by decide +kernel⟩, List.mem_of_getElem? (i := 1113) (by decide +kernel), List.mem_of_getElem? (i := 1476) (by decide +kernel), List.mem_of_getElem? (i := 1477) (by decide +kernel)⟩
def lw_privs_6 : List (MethodName × Nat) := [(⟨"TermLogModel", "isHanded", "()V"⟩, 45), (⟨"TermLogModel", "isUp", "(I)Z"⟩, 45), (⟨"TermLogModel", "areLinked", "(II)Z"⟩, 45), (⟨"TermLogModel", "loses", "()V"⟩, 45), (⟨"TermLogModel", "follows", "(II)V"⟩, 45), (⟨"TermLogModel", "losesReads", "(I)V"⟩, 45), (⟨"TermLogModel", "isAskedToVote", "(I)V"⟩, 45), (⟨"TermLogModel", "isNoLess", "(III)Z"⟩, 45), (⟨"TermLogModel", "lastOf", "(I)I"⟩, 45), (⟨"TermLogModel", "termAt", "(II)I"⟩, 45), (⟨"TermLogModel", "logPlace", "(II)I"⟩, 45), (⟨"TermLogModel", "answersBy", "(IIII)V"⟩, 45), (⟨"TermLogModel", "beginsMail", "(III)V"⟩, 45), (⟨"TermLogModel", "posts", "()V"⟩, 45), (⟨"TermLogModel", "holdsAny", "(I)Z"⟩, 45), (⟨"TermLogModel", "hasVote", "(I)V"⟩, 45)]
theorem lw_r6 : ∀ q ∈ lw_privs_6, lw_okq q := List.forall_mem_cons.mpr ⟨lw_p80, List.forall_mem_cons.mpr ⟨lw_p81, List.forall_mem_cons.mpr ⟨lw_p82, List.forall_mem_cons.mpr ⟨lw_p83, List.forall_mem_cons.mpr ⟨lw_p84, List.forall_mem_cons.mpr ⟨lw_p85, List.forall_mem_cons.mpr ⟨lw_p86, List.forall_mem_cons.mpr ⟨lw_p87, List.forall_mem_cons.mpr ⟨lw_p88, List.forall_mem_cons.mpr ⟨lw_p89, List.forall_mem_cons.mpr ⟨lw_p90, List.forall_mem_cons.mpr ⟨lw_p91, List.forall_mem_cons.mpr ⟨lw_p92, List.forall_mem_cons.mpr ⟨lw_p93, List.forall_mem_cons.mpr ⟨lw_p94, List.forall_mem_cons.mpr ⟨lw_p95, fun _ h => absurd h List.not_mem_nil⟩⟩⟩⟩⟩⟩⟩⟩⟩⟩⟩⟩⟩⟩⟩⟩
theorem lw_p96 : lw_okq (⟨"TermLogModel", "isMost", "(II)Z"⟩, 45) := ⟨⟨by decide +kernel, by decide +kernel⟩, List.mem_of_getElem? (i := 1113) (by decide +kernel), List.mem_of_getElem? (i := 1480) (by decide +kernel), List.mem_of_getElem? (i := 1481) (by decide +kernel)⟩
theorem lw_p97 : lw_okq (⟨"TermLogModel", "oldOf", "(I)I"⟩, 45) := ⟨⟨by decide +kernel, by decide +kernel⟩, List.mem_of_getElem? (i := 1113) (by decide +kernel), List.mem_of_getElem? (i := 1484) (by decide +kernel), List.mem_of_getElem? (i := 1485) (by decide +kernel)⟩
theorem lw_p98 : lw_okq (⟨"TermLogModel", "configAt", "(II)I"⟩, 45) := ⟨⟨by decide +kernel, by decide +kernel⟩, List.mem_of_getElem? (i := 1113) (by decide +kernel), List.mem_of_getElem? (i := 1488) (by decide +kernel), List.mem_of_getElem? (i := 1489) (by decide +kernel)⟩
theorem lw_p99 : lw_okq (⟨"TermLogModel", "newOf", "(I)I"⟩, 45) := ⟨⟨by decide +kernel, by decide +kernel⟩, List.mem_of_getElem? (i := 1113) (by decide +kernel), List.mem_of_getElem? (i := 1492) (by decide +kernel), List.mem_of_getElem? (i := 1493) (by decide +kernel)⟩
theorem lw_p100 : lw_okq (⟨"TermLogModel", "leads", "(I)V"⟩, 45) := ⟨⟨by decide +kernel, by decide +kernel⟩, List.mem_of_getElem? (i := 1113) (by decide +kernel), List.mem_of_getElem? (i := 1499) (by decide +kernel), List.mem_of_getElem? (i := 1500) (by decide +kernel)⟩
theorem lw_p101 : lw_okq (⟨"TermLogModel", "breaks", "()V"⟩, 45) := ⟨⟨by decide +kernel, by decide +kernel⟩, List.mem_of_getElem? (i := 1113) (by decide +kernel), List.mem_of_getElem? (i := 1503) (by decide +kernel), List.mem_of_getElem? (i := 1504) (by decide +kernel)⟩
theorem lw_p102 : lw_okq (⟨"TermLogModel", "lays", "(IIIII)Z"⟩, 45) := ⟨⟨by decide +kernel, by decide +kernel⟩, List.mem_of_getElem? (i := 1113) (by decide +kernel), List.mem_of_getElem? (i := 1507) (by decide +kernel), List.mem_of_getElem? (i := 1508) (by decide +kernel)⟩
theorem lw_p103 : lw_okq (⟨"TermLogModel", "compacts", "(I)V"⟩, 45) := ⟨⟨by decide +kernel, by decide +kernel⟩, List.mem_of_getElem? (i := 1113) (by decide +kernel), List.mem_of_getElem? (i := 1511) (by decide +kernel), List.mem_of_getElem? (i := 1512) (by decide +kernel)⟩
theorem lw_p104 : lw_okq (⟨"TermLogModel", "goesUpTo", "(II)V"⟩, 45) := ⟨⟨by decide +kernel, by decide +kernel⟩, List.mem_of_getElem? (i := 1113) (by decide +kernel), List.mem_of_getElem? (i := 1515) (by decide +kernel), List.mem_of_getElem? (i := 1516) (by decide +kernel)⟩
theorem lw_p105 : lw_okq (⟨"TermLogModel", "laidByLeader", "(I)V"⟩, 45) := ⟨⟨by decide +kernel, by decide +kernel⟩, List.mem_of_getElem? (i := 1113) (by decide +kernel), List.mem_of_getElem? (i := 1522) (by decide +kernel), List.mem_of_getElem? (i := 1523) (by decide +kernel)⟩
theorem lw_p106 : lw_okq (⟨"TermLogModel", "sendsToAll", "(I)V"⟩, 45) := ⟨⟨by decide +kernel, by decide +kernel⟩, List.mem_of_getElem? (i := 1113) (by decide +kernel), List.mem_of_getElem? (i := 1526) (by decide +kernel), List.mem_of_getElem? (i := 1527) (by decide +kernel)⟩
theorem lw_p107 : lw_okq (⟨"TermLogModel", "membersOf", "(I)I"⟩, 45) := ⟨⟨by decide +kernel, by decide +kernel⟩, List.mem_of_getElem? (i := 1113) (by decide +kernel), List.mem_of_getElem? (i := 1530) (by decide +kernel), List.mem_of_getElem? (i := 1531) (by decide +kernel)⟩
theorem lw_p108 : lw_okq (⟨"TermLogModel", "sendsOn", "(II)V"⟩, 45) := ⟨⟨by decide +kernel, by decide +kernel⟩, List.mem_of_getElem? (i := 1113) (by decide +kernel), List.mem_of_getElem? (i := 1534) (by decide +kernel), List.mem_of_getElem? (i := 1535) (by decide +kernel)⟩
theorem lw_p109 : lw_okq (⟨"TermLogModel", "tellsSnapshot", "(I)V"⟩, 45) := ⟨⟨by decide +kernel, by decide +kernel⟩, List.mem_of_getElem? (i := 1113) (by decide +kernel), List.mem_of_getElem? (i := 1538) (by decide +kernel), List.mem_of_getElem? (i := 1539) (by decide +kernel)⟩
theorem lw_p110 : lw_okq (⟨"TermLogModel", "tellsEntries", "(II)V"⟩, 45) := ⟨⟨by decide +kernel, by decide +kernel⟩, List.mem_of_getElem? (i := 1113) (by decide +kernel), List.mem_of_getElem? (i := 1542) (by decide +kernel), List.mem_of_getElem? (i := 1543) (by decide +kernel)⟩
theorem lw_p111 : lw_okq (⟨"TermLogModel", "holds", "(I)V"⟩, 45) := ⟨⟨by decide +kernel, by decide +kernel⟩, List.mem_of_getElem? (i := 1113) (by decide +kernel), List.mem_of_getElem? (i := 1546) (by decide +kernel), List.mem_of_getElem? (i := 1547) (by decide +kernel)⟩
def lw_privs_7 : List (MethodName × Nat) := [(⟨"TermLogModel", "isMost", "(II)Z"⟩, 45), (⟨"TermLogModel", "oldOf", "(I)I"⟩, 45), (⟨"TermLogModel", "configAt", "(II)I"⟩, 45), (⟨"TermLogModel", "newOf", "(I)I"⟩, 45), (⟨"TermLogModel", "leads", "(I)V"⟩, 45), (⟨"TermLogModel", "breaks", "()V"⟩, 45), (⟨"TermLogModel", "lays", "(IIIII)Z"⟩, 45), (⟨"TermLogModel", "compacts", "(I)V"⟩, 45), (⟨"TermLogModel", "goesUpTo", "(II)V"⟩, 45), (⟨"TermLogModel", "laidByLeader", "(I)V"⟩, 45), (⟨"TermLogModel", "sendsToAll", "(I)V"⟩, 45), (⟨"TermLogModel", "membersOf", "(I)I"⟩, 45), (⟨"TermLogModel", "sendsOn", "(II)V"⟩, 45), (⟨"TermLogModel", "tellsSnapshot", "(I)V"⟩, 45), (⟨"TermLogModel", "tellsEntries", "(II)V"⟩, 45), (⟨"TermLogModel", "holds", "(I)V"⟩, 45)]
theorem lw_r7 : ∀ q ∈ lw_privs_7, lw_okq q := List.forall_mem_cons.mpr ⟨lw_p96, List.forall_mem_cons.mpr ⟨lw_p97, List.forall_mem_cons.mpr ⟨lw_p98, List.forall_mem_cons.mpr ⟨lw_p99, List.forall_mem_cons.mpr ⟨lw_p100, List.forall_mem_cons.mpr ⟨lw_p101, List.forall_mem_cons.mpr ⟨lw_p102, List.forall_mem_cons.mpr ⟨lw_p103, List.forall_mem_cons.mpr ⟨lw_p104, List.forall_mem_cons.mpr ⟨lw_p105, List.forall_mem_cons.mpr ⟨lw_p106, List.forall_mem_cons.mpr ⟨lw_p107, List.forall_mem_cons.mpr ⟨lw_p108, List.forall_mem_cons.mpr ⟨lw_p109, List.forall_mem_cons.mpr ⟨lw_p110, List.forall_mem_cons.mpr ⟨lw_p111, fun _ h => absurd h List.not_mem_nil⟩⟩⟩⟩⟩⟩⟩⟩⟩⟩⟩⟩⟩⟩⟩⟩
theorem lw_p112 : lw_okq (⟨"TermLogModel", "mostHeld", "(I)I"⟩, 45) := ⟨⟨by decide +kernel, by decide +kernel⟩, List.mem_of_getElem? (i := 1113) (by decide +kernel), List.mem_of_getElem? (i := 1550) (by decide +kernel), List.mem_of_getElem? (i := 1551) (by decide +kernel)⟩
theorem lw_p113 : lw_okq (⟨"TermLogModel", "whoMatch", "(II)I"⟩, 45) := ⟨⟨by decide +kernel, by decide +kernel⟩, List.mem_of_getElem? (i := 1113) (by decide +kernel), List.mem_of_getElem? (i := 1554) (by decide +kernel), List.mem_of_getElem? (i := 1555) (by decide +kernel)⟩
theorem lw_p114 : lw_okq (⟨"TermLogModel", "growsCommit", "(II)V"⟩, 45) := ⟨⟨by decide +kernel, by decide +kernel⟩, List.mem_of_getElem? (i := 1113) (by decide +kernel), List.mem_of_getElem? (i := 1558) (by decide +kernel), List.mem_of_getElem? (i := 1559) (by decide +kernel)⟩
theorem lw_p115 : lw_okq (⟨"TermLogModel", "hasEntry", "(II)Z"⟩, 45) := ⟨⟨by decide +kernel, by decide +kernel⟩, List.mem_of_getElem? (i := 1113) (by decide +kernel), List.mem_of_getElem? (i := 1562) (by decide +kernel), List.mem_of_getElem? (i := 1563) (by decide +kernel)⟩
theorem lw_p116 : lw_okq (⟨"TermLogModel", "seesHeld", "(II)V"⟩, 45) := ⟨⟨by decide +kernel, by decide +kernel⟩, List.mem_of_getElem? (i := 1113) (by decide +kernel), List.mem_of_getElem? (i := 1566) (by decide +kernel), List.mem_of_getElem? (i := 1567) (by decide +kernel)⟩
theorem lw_p117 : lw_okq (⟨"TermLogModel", "isHeldConfig", "(I)Z"⟩, 45) := ⟨⟨by decide +kernel, by decide +kernel⟩, List.mem_of_getElem? (i := 1113) (by decide +kernel), List.mem_of_getElem? (i := 1570) (by decide +kernel), List.mem_of_getElem? (i := 1571) (by decide +kernel)⟩
theorem lw_p118 : lw_okq (⟨"TermLogModel", "hasEntries", "(I)V"⟩, 45) := ⟨⟨by decide +kernel, by decide +kernel⟩, List.mem_of_getElem? (i := 1113) (by decide +kernel), List.mem_of_getElem? (i := 1574) (by decide +kernel), List.mem_of_getElem? (i := 1575) (by decide +kernel)⟩
theorem lw_p119 : lw_okq (⟨"TermLogModel", "firstOfTerm", "(II)I"⟩, 45) := ⟨⟨by decide +kernel, by decide +kernel⟩, List.mem_of_getElem? (i := 1113) (by decide +kernel), List.mem_of_getElem? (i := 1578) (by decide +kernel), List.mem_of_getElem? (i := 1579) (by decide +kernel)⟩
theorem lw_p120 : lw_okq (⟨"TermLogModel", "laysAs", "(III)Z"⟩, 45) := ⟨⟨by decide +kernel, by decide +kernel⟩, List.mem_of_getElem? (i := 1113) (by decide +kernel), List.mem_of_getElem? (i := 1582) (by decide +kernel), List.mem_of_getElem? (i := 1583) (by decide +kernel)⟩
theorem lw_p121 : lw_okq (⟨"TermLogModel", "hearsOfEntries", "(I)V"⟩, 45) := ⟨⟨by decide +kernel, by decide +kernel⟩, List.mem_of_getElem? (i := 1113) (by decide +kernel), List.mem_of_getElem? (i := 1586) (by decide +kernel), List.mem_of_getElem? (i := 1587) (by decide +kernel)⟩
theorem lw_p122 : lw_okq (⟨"TermLogModel", "isOfLeader", "(I)Z"⟩, 45) := ⟨⟨by decide +kernel, by decide +kernel⟩, List.mem_of_getElem? (i := 1113) (by decide +kernel), List.mem_of_getElem? (i := 1590) (by decide +kernel), List.mem_of_getElem? (i := 1591) (by decide +kernel)⟩
theorem lw_p123 : lw_okq (⟨"TermLogModel", "matches", "(II)V"⟩, 45) := ⟨⟨by decide +kernel, by decide +kernel⟩, List.mem_of_getElem? (i := 1113) (by decide +kernel), List.mem_of_getElem? (i := 1594) (by decide +kernel), List.mem_of_getElem? (i := 1595) (by decide +kernel)⟩
theorem lw_p124 : lw_okq (⟨"TermLogModel", "answersReads", "(I)V"⟩, 45) := ⟨⟨by decide +kernel, by decide +kernel⟩, List.mem_of_getElem? (i := 1113) (by decide +kernel), List.mem_of_getElem? (i := 1598) (by decide +kernel), List.mem_of_getElem? (i := 1599) (by decide +kernel)⟩
theorem lw_p125 : lw_okq (⟨"TermLogModel", "whoHeard", "(II)I"⟩, 45) := ⟨⟨by decide +kernel, by decide +kernel⟩, List.mem_of_getElem? (i := 1113) (by decide +kernel), List.mem_of_getElem? (i := 1602) (by decide +kernel), List.mem_of_getElem? (i := 1603) (by decide +kernel)⟩
theorem lw_p126 : lw_okq (⟨"TermLogModel", "hasSnapshot", "(I)V"⟩, 45) := ⟨⟨by decide +kernel, by decide +kernel⟩, List.mem_of_getElem? (i := 1113) (by decide +kernel), List.mem_of_getElem? (i := 1606) (by decide +kernel), List.mem_of_getElem? (i := 1607) (by decide +kernel)⟩
theorem lw_p127 : lw_okq (⟨"TermLogModel", "hearsOfSnapshot", "(I)V"⟩, 45) := ⟨⟨by decide +kernel, by decide +kernel⟩, List.mem_of_getElem? (i := 1113) (by decide +kernel), List.mem_of_getElem? (i := 1610) (by decide +kernel), List.mem_of_getElem? (i := 1611) (by decide +kernel)⟩
def lw_privs_8 : List (MethodName × Nat) := [(⟨"TermLogModel", "mostHeld", "(I)I"⟩, 45), (⟨"TermLogModel", "whoMatch", "(II)I"⟩, 45), (⟨"TermLogModel", "growsCommit", "(II)V"⟩, 45), (⟨"TermLogModel", "hasEntry", "(II)Z"⟩, 45), (⟨"TermLogModel", "seesHeld", "(II)V"⟩, 45), (⟨"TermLogModel", "isHeldConfig", "(I)Z"⟩, 45), (⟨"TermLogModel", "hasEntries", "(I)V"⟩, 45), (⟨"TermLogModel", "firstOfTerm", "(II)I"⟩, 45), (⟨"TermLogModel", "laysAs", "(III)Z"⟩, 45), (⟨"TermLogModel", "hearsOfEntries", "(I)V"⟩, 45), (⟨"TermLogModel", "isOfLeader", "(I)Z"⟩, 45), (⟨"TermLogModel", "matches", "(II)V"⟩, 45), (⟨"TermLogModel", "answersReads", "(I)V"⟩, 45), (⟨"TermLogModel", "whoHeard", "(II)I"⟩, 45), (⟨"TermLogModel", "hasSnapshot", "(I)V"⟩, 45), (⟨"TermLogModel", "hearsOfSnapshot", "(I)V"⟩, 45)]
theorem lw_r8 : ∀ q ∈ lw_privs_8, lw_okq q := List.forall_mem_cons.mpr ⟨lw_p112, List.forall_mem_cons.mpr ⟨lw_p113, List.forall_mem_cons.mpr ⟨lw_p114, List.forall_mem_cons.mpr ⟨lw_p115, List.forall_mem_cons.mpr ⟨lw_p116, List.forall_mem_cons.mpr ⟨lw_p117, List.forall_mem_cons.mpr ⟨lw_p118, List.forall_mem_cons.mpr ⟨lw_p119, List.forall_mem_cons.mpr ⟨lw_p120, List.forall_mem_cons.mpr ⟨lw_p121, List.forall_mem_cons.mpr ⟨lw_p122, List.forall_mem_cons.mpr ⟨lw_p123, List.forall_mem_cons.mpr ⟨lw_p124, List.forall_mem_cons.mpr ⟨lw_p125, List.forall_mem_cons.mpr ⟨lw_p126, List.forall_mem_cons.mpr ⟨lw_p127, fun _ h => absurd h List.not_mem_nil⟩⟩⟩⟩⟩⟩⟩⟩⟩⟩⟩⟩⟩⟩⟩⟩
theorem lw_p128 : lw_okq (⟨"TermLogModel", "nodeGoes", "(I)V"⟩, 45) := ⟨⟨by decide +kernel, by decide +kernel⟩, List.mem_of_getElem? (i := 1113) (by decide +kernel), List.mem_of_getElem? (i := 1614) (by decide +kernel), List.mem_of_getElem? (i := 1615) (by decide +kernel)⟩
theorem lw_p129 : lw_okq (⟨"TermLogModel", "stands", "(I)V"⟩, 45) := ⟨⟨by decide +kernel, by decide +kernel⟩, List.mem_of_getElem? (i := 1113) (by decide +kernel), List.mem_of_getElem? (i := 1618) (by decide +kernel), List.mem_of_getElem? (i := 1619) (by decide +kernel)⟩
theorem lw_p130 : lw_okq (⟨"TermLogModel", "asksAll", "(I)V"⟩, 45) := ⟨⟨by decide +kernel, by decide +kernel⟩, List.mem_of_getElem? (i := 1113) (by decide +kernel), List.mem_of_getElem? (i := 1622) (by decide +kernel), List.mem_of_getElem? (i := 1623) (by decide +kernel)⟩
theorem lw_p131 : lw_okq (⟨"TermLogModel", "isLeader", "(I)Z"⟩, 45) := ⟨⟨by decide +kernel, by decide +kernel⟩, List.mem_of_getElem? (i := 1113) (by decide +kernel), List.mem_of_getElem? (i := 1650) (by decide +kernel), List.mem_of_getElem? (i := 1651) (by decide +kernel)⟩
theorem lw_p132 : lw_okq (⟨"TermLogModel", "isFull", "(I)Z"⟩, 45) := ⟨⟨by decide +kernel, by decide +kernel⟩, List.mem_of_getElem? (i := 1113) (by decide +kernel), List.mem_of_getElem? (i := 1654) (by decide +kernel), List.mem_of_getElem? (i := 1655) (by decide +kernel)⟩
theorem lw_p133 : lw_okq (⟨"TermLogModel", "readsAct", "()Z"⟩, 45) := ⟨⟨by decide +kernel, by decide +kernel⟩, List.mem_of_getElem? (i := 1113) (by decide +kernel), List.mem_of_getElem? (i := 1670) (by decide +kernel), List.mem_of_getElem? (i := 1671) (by decide +kernel)⟩
theorem lw_p134 : lw_okq (⟨"TermLogModel", "readsTimes", "()V"⟩, 45) := ⟨⟨by decide +kernel, by decide +kernel⟩, List.mem_of_getElem? (i := 1113) (by decide +kernel), List.mem_of_getElem? (i := 1674) (by decide +kernel), List.mem_of_getElem? (i := 1675) (by decide +kernel)⟩
theorem lw_p135 : lw_okq (⟨"TermLogModel", "readsNumbers", "(I)Z"⟩, 45) := ⟨⟨by decide +kernel, by decide +kernel⟩, List.mem_of_getElem? (i := 1113) (by decide +kernel), List.mem_of_getElem? (i := 1681) (by decide +kernel), List.mem_of_getElem? (i := 1682) (by decide +kernel)⟩
theorem lw_p136 : lw_okq (⟨"TermLogModel", "readsDigit", "(I)Z"⟩, 45) := ⟨⟨by decide +kernel, by decide +kernel⟩, List.mem_of_getElem? (i := 1113) (by decide +kernel), List.mem_of_getElem? (i := 1685) (by decide +kernel), List.mem_of_getElem? (i := 1686) (by decide +kernel)⟩
theorem lw_p137 : lw_okq (⟨"TermLogModel", "repeats", "(III)Z"⟩, 45) := ⟨⟨by decide +kernel, by decide +kernel⟩, List.mem_of_getElem? (i := 1113) (by decide +kernel), List.mem_of_getElem? (i := 1689) (by decide +kernel), List.mem_of_getElem? (i := 1690) (by decide +kernel)⟩
theorem lw_p138 : lw_okq (⟨"TermLogModel", "isDone", "(I)Z"⟩, 45) := ⟨⟨by decide +kernel, by decide +kernel⟩, List.mem_of_getElem? (i := 1113) (by decide +kernel), List.mem_of_getElem? (i := 1693) (by decide +kernel), List.mem_of_getElem? (i := 1694) (by decide +kernel)⟩
theorem lw_p139 : lw_okq (⟨"TermLogModel", "leading", "()I"⟩, 45) := ⟨⟨by decide +kernel, by decide +kernel⟩, List.mem_of_getElem? (i := 1113) (by decide +kernel), List.mem_of_getElem? (i := 1707) (by decide +kernel), List.mem_of_getElem? (i := 1708) (by decide +kernel)⟩
theorem lw_p140 : lw_okq (⟨"TermLogModel", "areMatched", "(II)Z"⟩, 45) := ⟨⟨by decide +kernel, by decide +kernel⟩, List.mem_of_getElem? (i := 1113) (by decide +kernel), List.mem_of_getElem? (i := 1753) (by decide +kernel), List.mem_of_getElem? (i := 1754) (by decide +kernel)⟩
theorem lw_p141 : lw_okq (⟨"TermLogModel", "areSame", "(III)Z"⟩, 45) := ⟨⟨by decide +kernel, by decide +kernel⟩, List.mem_of_getElem? (i := 1113) (by decide +kernel), List.mem_of_getElem? (i := 1757) (by decide +kernel), List.mem_of_getElem? (i := 1758) (by decide +kernel)⟩
theorem lw_p142 : lw_okq (⟨"TermLogModel", "areAlike", "(II)Z"⟩, 45) := ⟨⟨by decide +kernel, by decide +kernel⟩, List.mem_of_getElem? (i := 1113) (by decide +kernel), List.mem_of_getElem? (i := 1761) (by decide +kernel), List.mem_of_getElem? (i := 1762) (by decide +kernel)⟩
theorem lw_p143 : lw_okq (⟨"TermLogModel", "wouldGrant", "(II)Z"⟩, 45) := ⟨⟨by decide +kernel, by decide +kernel⟩, List.mem_of_getElem? (i := 1113) (by decide +kernel), List.mem_of_getElem? (i := 1769) (by decide +kernel), List.mem_of_getElem? (i := 1770) (by decide +kernel)⟩
def lw_privs_9 : List (MethodName × Nat) := [(⟨"TermLogModel", "nodeGoes", "(I)V"⟩, 45), (⟨"TermLogModel", "stands", "(I)V"⟩, 45), (⟨"TermLogModel", "asksAll", "(I)V"⟩, 45), (⟨"TermLogModel", "isLeader", "(I)Z"⟩, 45), (⟨"TermLogModel", "isFull", "(I)Z"⟩, 45), (⟨"TermLogModel", "readsAct", "()Z"⟩, 45), (⟨"TermLogModel", "readsTimes", "()V"⟩, 45), (⟨"TermLogModel", "readsNumbers", "(I)Z"⟩, 45), (⟨"TermLogModel", "readsDigit", "(I)Z"⟩, 45), (⟨"TermLogModel", "repeats", "(III)Z"⟩, 45), (⟨"TermLogModel", "isDone", "(I)Z"⟩, 45), (⟨"TermLogModel", "leading", "()I"⟩, 45), (⟨"TermLogModel", "areMatched", "(II)Z"⟩, 45), (⟨"TermLogModel", "areSame", "(III)Z"⟩, 45), (⟨"TermLogModel", "areAlike", "(II)Z"⟩, 45), (⟨"TermLogModel", "wouldGrant", "(II)Z"⟩, 45)]
theorem lw_r9 : ∀ q ∈ lw_privs_9, lw_okq q := List.forall_mem_cons.mpr ⟨lw_p128, List.forall_mem_cons.mpr ⟨lw_p129, List.forall_mem_cons.mpr ⟨lw_p130, List.forall_mem_cons.mpr ⟨lw_p131, List.forall_mem_cons.mpr ⟨lw_p132, List.forall_mem_cons.mpr ⟨lw_p133, List.forall_mem_cons.mpr ⟨lw_p134, List.forall_mem_cons.mpr ⟨lw_p135, List.forall_mem_cons.mpr ⟨lw_p136, List.forall_mem_cons.mpr ⟨lw_p137, List.forall_mem_cons.mpr ⟨lw_p138, List.forall_mem_cons.mpr ⟨lw_p139, List.forall_mem_cons.mpr ⟨lw_p140, List.forall_mem_cons.mpr ⟨lw_p141, List.forall_mem_cons.mpr ⟨lw_p142, List.forall_mem_cons.mpr ⟨lw_p143, fun _ h => absurd h List.not_mem_nil⟩⟩⟩⟩⟩⟩⟩⟩⟩⟩⟩⟩⟩⟩⟩⟩
theorem lw_p144 : lw_okq (⟨"TermLogModel", "isSo", "(II)Z"⟩, 45) := ⟨⟨by decide +kernel, by decide +kernel⟩, List.mem_of_getElem? (i := 1113) (by decide +kernel), List.mem_of_getElem? (i := 1781) (by decide +kernel), List.mem_of_getElem? (i := 1782) (by decide +kernel)⟩
theorem lw_p145 : lw_okq (⟨"TermLogModel", "allHave", "()Z"⟩, 45) := ⟨⟨by decide +kernel, by decide +kernel⟩, List.mem_of_getElem? (i := 1113) (by decide +kernel), List.mem_of_getElem? (i := 1785) (by decide +kernel), List.mem_of_getElem? (i := 1786) (by decide +kernel)⟩
theorem lw_p146 : lw_okq (⟨"TermLogModel", "greatest", "()I"⟩, 45) := ⟨⟨by decide +kernel, by decide +kernel⟩, List.mem_of_getElem? (i := 1113) (by decide +kernel), List.mem_of_getElem? (i := 1806) (by decide +kernel), List.mem_of_getElem? (i := 1807) (by decide +kernel)⟩
theorem lw_p147 : lw_okq (⟨"TermLogModel", "octet", "(I)I"⟩, 45) := ⟨⟨by decide +kernel, by decide +kernel⟩, List.mem_of_getElem? (i := 1113) (by decide +kernel), List.mem_of_getElem? (i := 1810) (by decide +kernel), List.mem_of_getElem? (i := 1811) (by decide +kernel)⟩
theorem lw_p148 : lw_okq (⟨"TermLogModel", "upSet", "()I"⟩, 45) := ⟨⟨by decide +kernel, by decide +kernel⟩, List.mem_of_getElem? (i := 1113) (by decide +kernel), List.mem_of_getElem? (i := 1818) (by decide +kernel), List.mem_of_getElem? (i := 1819) (by decide +kernel)⟩
theorem lw_p149 : lw_okq (⟨"TermLogModel", "cutMany", "()I"⟩, 45) := ⟨⟨by decide +kernel, by decide +kernel⟩, List.mem_of_getElem? (i := 1113) (by decide +kernel), List.mem_of_getElem? (i := 1822) (by decide +kernel), List.mem_of_getElem? (i := 1823) (by decide +kernel)⟩
def lw_privs_10 : List (MethodName × Nat) := [(⟨"TermLogModel", "isSo", "(II)Z"⟩, 45), (⟨"TermLogModel", "allHave", "()Z"⟩, 45), (⟨"TermLogModel", "greatest", "()I"⟩, 45), (⟨"TermLogModel", "octet", "(I)I"⟩, 45), (⟨"TermLogModel", "upSet", "()I"⟩, 45), (⟨"TermLogModel", "cutMany", "()I"⟩, 45)]
theorem lw_r10 : ∀ q ∈ lw_privs_10, lw_okq q := List.forall_mem_cons.mpr ⟨lw_p144, List.forall_mem_cons.mpr ⟨lw_p145, List.forall_mem_cons.mpr ⟨lw_p146, List.forall_mem_cons.mpr ⟨lw_p147, List.forall_mem_cons.mpr ⟨lw_p148, List.forall_mem_cons.mpr ⟨lw_p149, fun _ h => absurd h List.not_mem_nil⟩⟩⟩⟩⟩⟩
def lw_privs : List (MethodName × Nat) := lw_privs_1 ++ (lw_privs_2 ++ (lw_privs_3 ++ (lw_privs_4 ++ (lw_privs_5 ++ (lw_privs_6 ++ (lw_privs_7 ++ (lw_privs_8 ++ (lw_privs_9 ++ (lw_privs_10)))))))))
def lw_tbl : List Cond := k2_sels lw_privs ++ tables_1
theorem lw_privs_ok : ∀ q ∈ lw_privs, lw_okq q := by
  show ∀ q ∈ lw_privs_1 ++ (lw_privs_2 ++ (lw_privs_3 ++ (lw_privs_4 ++ (lw_privs_5 ++ (lw_privs_6 ++ (lw_privs_7 ++ (lw_privs_8 ++ (lw_privs_9 ++ (lw_privs_10))))))))), lw_okq q
  exact List.forall_mem_append.mpr ⟨lw_r1, List.forall_mem_append.mpr ⟨lw_r2, List.forall_mem_append.mpr ⟨lw_r3, List.forall_mem_append.mpr ⟨lw_r4, List.forall_mem_append.mpr ⟨lw_r5, List.forall_mem_append.mpr ⟨lw_r6, List.forall_mem_append.mpr ⟨lw_r7, List.forall_mem_append.mpr ⟨lw_r8, List.forall_mem_append.mpr ⟨lw_r9, lw_r10⟩⟩⟩⟩⟩⟩⟩⟩⟩
def RX0 : String := "TermLog$Law"
def TX0 : u_T := fun k => match k with
  | 0 => ("TermLog$Law", "rules", "I", false)
  | 1 => ("TermLog$Law", "size", "I", false)
  | 2 => ("TermLog$Law", "steps", "[I", true)
  | 3 => ("TermLog$Law", "args", "[I", true)
  | 4 => ("TermLog$Law", "given", "[I", true)
  | _ => ("TermLog$Law", "stack", "[I", true)
def tyX0 : Nat → FieldType := fun k => match k with
  | 0 => .int
  | 1 => .int
  | 2 => .array .int
  | 3 => .array .int
  | 4 => .array .int
  | _ => .array .int
abbrev wsX00 : List Cond := u_ws RX0 TX0 6
theorem nmX0 : ∀ a, a < 6 → ∀ b, b < 6 → a ≠ b → (TX0 a).2.1 ≠ (TX0 b).2.1 := by decide +kernel
theorem tyX0_ok : ∀ k, k < 6 → parseFieldDescriptor (TX0 k).2.2.1 = some (tyX0 k) := by decide +kernel
abbrev cX0_init : ByteArray := prog_2_method_1_code
def yX0_init : MethodName := ⟨RX0, "<init>", "()V"⟩
abbrev cX0_clear : ByteArray := prog_2_method_2_code
def yX0_clear : MethodName := ⟨RX0, "clear", "()V"⟩
abbrev cX0_put : ByteArray := prog_2_method_3_code
def yX0_put : MethodName := ⟨RX0, "put", "(II)I"⟩
abbrev cX0_aim : ByteArray := prog_2_method_4_code
def yX0_aim : MethodName := ⟨RX0, "aim", "(I)V"⟩
abbrev cX0_give : ByteArray := prog_2_method_5_code
def yX0_give : MethodName := ⟨RX0, "give", "(IIIIIII)V"⟩
abbrev cX0_worth : ByteArray := prog_2_method_6_code
def yX0_worth : MethodName := ⟨RX0, "worth", "(IIII)I"⟩
abbrev cX0_takeAll : ByteArray := prog_2_method_7_code
def yX0_takeAll : MethodName := ⟨RX0, "takeAll", "(LTermLog$Law;)V"⟩
def RX1 : String := "TermLog$LawReader"
def TX1 : u_T := fun k => match k with
  | 0 => ("TermLog$LawReader", "draft", "LTermLog$Law;", true)
  | 1 => ("TermLog$LawReader", "text", "[I", true)
  | 2 => ("TermLog$LawReader", "end", "I", false)
  | 3 => ("TermLog$LawReader", "at", "I", false)
  | _ => ("TermLog$LawReader", "fault", "I", false)
def tyX1 : Nat → FieldType := fun k => match k with
  | 0 => .object "TermLog$Law"
  | 1 => .array .int
  | 2 => .int
  | 3 => .int
  | _ => .int
abbrev wsX10 : List Cond := u_ws RX1 TX1 5
theorem nmX1 : ∀ a, a < 5 → ∀ b, b < 5 → a ≠ b → (TX1 a).2.1 ≠ (TX1 b).2.1 := by decide +kernel
theorem tyX1_ok : ∀ k, k < 5 → parseFieldDescriptor (TX1 k).2.2.1 = some (tyX1 k) := by decide +kernel
abbrev cX1_init : ByteArray := prog_3_method_1_code
def yX1_init : MethodName := ⟨RX1, "<init>", "([I)V"⟩
abbrev cX1_readRules : ByteArray := prog_3_method_2_code
def yX1_readRules : MethodName := ⟨RX1, "readRules", "(I)I"⟩
abbrev cX1_sign : ByteArray := prog_3_method_3_code
def yX1_sign : MethodName := ⟨RX1, "sign", "()I"⟩
abbrev cX1_fail : ByteArray := prog_3_method_4_code
def yX1_fail : MethodName := ⟨RX1, "fail", "(I)V"⟩
abbrev cX1_expect : ByteArray := prog_3_method_5_code
def yX1_expect : MethodName := ⟨RX1, "expect", "(I)V"⟩
abbrev cX1_isNext : ByteArray := prog_3_method_6_code
def yX1_isNext : MethodName := ⟨RX1, "isNext", "(III)Z"⟩
abbrev cX1_readRule : ByteArray := prog_3_method_7_code
def yX1_readRule : MethodName := ⟨RX1, "readRule", "()V"⟩
abbrev cX1_readParts : ByteArray := prog_3_method_8_code
def yX1_readParts : MethodName := ⟨RX1, "readParts", "(I)V"⟩
abbrev cX1_readTests : ByteArray := prog_3_method_9_code
def yX1_readTests : MethodName := ⟨RX1, "readTests", "(I)V"⟩
abbrev cX1_readTest : ByteArray := prog_3_method_10_code
def yX1_readTest : MethodName := ⟨RX1, "readTest", "(I)V"⟩
abbrev cX1_readOpened : ByteArray := prog_3_method_11_code
def yX1_readOpened : MethodName := ⟨RX1, "readOpened", "(I)V"⟩
abbrev cX1_readSum : ByteArray := prog_3_method_12_code
def yX1_readSum : MethodName := ⟨RX1, "readSum", "(I)V"⟩
abbrev cX1_readProduct : ByteArray := prog_3_method_13_code
def yX1_readProduct : MethodName := ⟨RX1, "readProduct", "(I)V"⟩
abbrev cX1_readFactor : ByteArray := prog_3_method_14_code
def yX1_readFactor : MethodName := ⟨RX1, "readFactor", "(I)V"⟩
abbrev cX1_readNumber : ByteArray := prog_3_method_15_code
def yX1_readNumber : MethodName := ⟨RX1, "readNumber", "()V"⟩
abbrev cX1_isDigit : ByteArray := prog_3_method_16_code
def yX1_isDigit : MethodName := ⟨RX1, "isDigit", "(I)Z"⟩
abbrev cX1_letterPlace : ByteArray := prog_3_method_17_code
def yX1_letterPlace : MethodName := ⟨RX1, "letterPlace", "(I)I"⟩
def RX2 : String := "TermLog$Message"
def TX2 : u_T := fun k => match k with
  | 0 => ("TermLog$Message", "from", "I", false)
  | 1 => ("TermLog$Message", "to", "I", false)
  | 2 => ("TermLog$Message", "kind", "I", false)
  | 3 => ("TermLog$Message", "term", "I", false)
  | 4 => ("TermLog$Message", "due", "I", false)
  | 5 => ("TermLog$Message", "index", "I", false)
  | 6 => ("TermLog$Message", "indexTerm", "I", false)
  | 7 => ("TermLog$Message", "isYes", "Z", false)
  | 8 => ("TermLog$Message", "commit", "I", false)
  | 9 => ("TermLog$Message", "round", "I", false)
  | 10 => ("TermLog$Message", "entries", "[I", true)
  | 11 => ("TermLog$Message", "entryCount", "I", false)
  | _ => ("TermLog$Message", "snapshot", "LTermLog$Snapshot;", true)
def tyX2 : Nat → FieldType := fun k => match k with
  | 0 => .int
  | 1 => .int
  | 2 => .int
  | 3 => .int
  | 4 => .int
  | 5 => .int
  | 6 => .int
  | 7 => .boolean
  | 8 => .int
  | 9 => .int
  | 10 => .array .int
  | 11 => .int
  | _ => .object "TermLog$Snapshot"
abbrev wsX20 : List Cond := u_ws RX2 TX2 13
theorem nmX2 : ∀ a, a < 13 → ∀ b, b < 13 → a ≠ b → (TX2 a).2.1 ≠ (TX2 b).2.1 := by decide +kernel
theorem tyX2_ok : ∀ k, k < 13 → parseFieldDescriptor (TX2 k).2.2.1 = some (tyX2 k) := by decide +kernel
abbrev cX2_init : ByteArray := prog_4_method_1_code
def yX2_init : MethodName := ⟨RX2, "<init>", "()V"⟩
abbrev cX2_begin : ByteArray := prog_4_method_2_code
def yX2_begin : MethodName := ⟨RX2, "begin", "(LTermLog$Node;II)V"⟩
abbrev cX2_bearEntries : ByteArray := prog_4_method_3_code
def yX2_bearEntries : MethodName := ⟨RX2, "bearEntries", "(LTermLog$Node;)V"⟩
abbrev cX2_fact : ByteArray := prog_4_method_4_code
def yX2_fact : MethodName := ⟨RX2, "fact", "(I)I"⟩
abbrev cX2_takeAll : ByteArray := prog_4_method_5_code
def yX2_takeAll : MethodName := ⟨RX2, "takeAll", "(LTermLog$Message;)V"⟩
def RX3 : String := "TermLog$Node"
def TX3 : u_T := fun k => match k with
  | 0 => ("TermLog$Node", "number", "I", true)
  | 1 => ("TermLog$Node", "up", "Z", false)
  | 2 => ("TermLog$Node", "term", "I", false)
  | 3 => ("TermLog$Node", "vote", "I", false)
  | 4 => ("TermLog$Node", "log", "[I", true)
  | 5 => ("TermLog$Node", "logSize", "I", false)
  | 6 => ("TermLog$Node", "snapshot", "LTermLog$Snapshot;", true)
  | 7 => ("TermLog$Node", "role", "I", false)
  | 8 => ("TermLog$Node", "commit", "I", false)
  | 9 => ("TermLog$Node", "keys", "[I", true)
  | 10 => ("TermLog$Node", "timer", "I", false)
  | 11 => ("TermLog$Node", "leaderKnown", "I", false)
  | 12 => ("TermLog$Node", "votes", "I", false)
  | 13 => ("TermLog$Node", "next", "[I", true)
  | 14 => ("TermLog$Node", "match", "[I", true)
  | 15 => ("TermLog$Node", "heard", "[I", true)
  | 16 => ("TermLog$Node", "round", "I", false)
  | _ => ("TermLog$Node", "heart", "I", false)
def tyX3 : Nat → FieldType := fun k => match k with
  | 0 => .int
  | 1 => .boolean
  | 2 => .int
  | 3 => .int
  | 4 => .array .int
  | 5 => .int
  | 6 => .object "TermLog$Snapshot"
  | 7 => .int
  | 8 => .int
  | 9 => .array .int
  | 10 => .int
  | 11 => .int
  | 12 => .int
  | 13 => .array .int
  | 14 => .array .int
  | 15 => .array .int
  | 16 => .int
  | _ => .int
abbrev wsX30 : List Cond := u_ws RX3 TX3 18
theorem nmX3 : ∀ a, a < 18 → ∀ b, b < 18 → a ≠ b → (TX3 a).2.1 ≠ (TX3 b).2.1 := by decide +kernel
theorem tyX3_ok : ∀ k, k < 18 → parseFieldDescriptor (TX3 k).2.2.1 = some (tyX3 k) := by decide +kernel
abbrev cX3_init : ByteArray := prog_5_method_1_code
def yX3_init : MethodName := ⟨RX3, "<init>", "(I)V"⟩
abbrev cX3_begin : ByteArray := prog_5_method_2_code
def yX3_begin : MethodName := ⟨RX3, "begin", "(I)V"⟩
abbrev cX3_rise : ByteArray := prog_5_method_3_code
def yX3_rise : MethodName := ⟨RX3, "rise", "()V"⟩
abbrev cX3_leads : ByteArray := prog_5_method_4_code
def yX3_leads : MethodName := ⟨RX3, "leads", "()Z"⟩
abbrev cX3_base : ByteArray := prog_5_method_5_code
def yX3_base : MethodName := ⟨RX3, "base", "()I"⟩
abbrev cX3_last : ByteArray := prog_5_method_6_code
def yX3_last : MethodName := ⟨RX3, "last", "()I"⟩
abbrev cX3_entry : ByteArray := prog_5_method_7_code
def yX3_entry : MethodName := ⟨RX3, "entry", "(I)I"⟩
abbrev cX3_termAt : ByteArray := prog_5_method_8_code
def yX3_termAt : MethodName := ⟨RX3, "termAt", "(I)I"⟩
abbrev cX3_isFull : ByteArray := prog_5_method_9_code
def yX3_isFull : MethodName := ⟨RX3, "isFull", "()Z"⟩
abbrev cX3_configIndex : ByteArray := prog_5_method_10_code
def yX3_configIndex : MethodName := ⟨RX3, "configIndex", "(I)I"⟩
abbrev cX3_oldsAt : ByteArray := prog_5_method_11_code
def yX3_oldsAt : MethodName := ⟨RX3, "oldsAt", "(I)I"⟩
abbrev cX3_newsAt : ByteArray := prog_5_method_12_code
def yX3_newsAt : MethodName := ⟨RX3, "newsAt", "(I)I"⟩
abbrev cX3_members : ByteArray := prog_5_method_13_code
def yX3_members : MethodName := ⟨RX3, "members", "()I"⟩
abbrev cX3_isMember : ByteArray := prog_5_method_14_code
def yX3_isMember : MethodName := ⟨RX3, "isMember", "()Z"⟩
abbrev cX3_isMajority : ByteArray := prog_5_method_15_code
def yX3_isMajority : MethodName := ⟨RX3, "isMajority", "(I)Z"⟩
abbrev cX3_isAheadOf : ByteArray := prog_5_method_16_code
def yX3_isAheadOf : MethodName := ⟨RX3, "isAheadOf", "(II)Z"⟩
abbrev cX3_lay : ByteArray := prog_5_method_17_code
def yX3_lay : MethodName := ⟨RX3, "lay", "(I)Z"⟩
abbrev cX3_shorten : ByteArray := prog_5_method_18_code
def yX3_shorten : MethodName := ⟨RX3, "shorten", "()V"⟩
abbrev cX3_dropUpTo : ByteArray := prog_5_method_19_code
def yX3_dropUpTo : MethodName := ⟨RX3, "dropUpTo", "(I)V"⟩
abbrev cX3_dropFrom : ByteArray := prog_5_method_20_code
def yX3_dropFrom : MethodName := ⟨RX3, "dropFrom", "(I)V"⟩
abbrev cX3_install : ByteArray := prog_5_method_21_code
def yX3_install : MethodName := ⟨RX3, "install", "(LTermLog$Snapshot;)V"⟩
abbrev cX3_hintAgainst : ByteArray := prog_5_method_22_code
def yX3_hintAgainst : MethodName := ⟨RX3, "hintAgainst", "(II)I"⟩
abbrev cX3_becomeCandidate : ByteArray := prog_5_method_23_code
def yX3_becomeCandidate : MethodName := ⟨RX3, "becomeCandidate", "()V"⟩
abbrev cX3_becomeLeader : ByteArray := prog_5_method_24_code
def yX3_becomeLeader : MethodName := ⟨RX3, "becomeLeader", "()V"⟩
abbrev cX3_winsBy : ByteArray := prog_5_method_25_code
def yX3_winsBy : MethodName := ⟨RX3, "winsBy", "(LTermLog$Message;)Z"⟩
abbrev cX3_matchedByMajority : ByteArray := prog_5_method_26_code
def yX3_matchedByMajority : MethodName := ⟨RX3, "matchedByMajority", "()I"⟩
abbrev cX3_thoseWithMatch : ByteArray := prog_5_method_27_code
def yX3_thoseWithMatch : MethodName := ⟨RX3, "thoseWithMatch", "(I)I"⟩
abbrev cX3_thoseWithHeard : ByteArray := prog_5_method_28_code
def yX3_thoseWithHeard : MethodName := ⟨RX3, "thoseWithHeard", "(I)I"⟩
abbrev cX3_hasSameKeys : ByteArray := prog_5_method_29_code
def yX3_hasSameKeys : MethodName := ⟨RX3, "hasSameKeys", "(LTermLog$Node;)Z"⟩
abbrev cX3_isMatchedWith : ByteArray := prog_5_method_30_code
def yX3_isMatchedWith : MethodName := ⟨RX3, "isMatchedWith", "(LTermLog$Node;)Z"⟩
abbrev cX3_fact : ByteArray := prog_5_method_31_code
def yX3_fact : MethodName := ⟨RX3, "fact", "(I)I"⟩
abbrev cX3_takeAll : ByteArray := prog_5_method_32_code
def yX3_takeAll : MethodName := ⟨RX3, "takeAll", "(LTermLog$Node;)V"⟩
def RX4 : String := "TermLog$PlanReader"
def TX4 : u_T := fun k => match k with
  | 0 => ("TermLog$PlanReader", "acts", "[I", true)
  | 1 => ("TermLog$PlanReader", "size", "I", false)
  | 2 => ("TermLog$PlanReader", "text", "[I", true)
  | 3 => ("TermLog$PlanReader", "end", "I", false)
  | 4 => ("TermLog$PlanReader", "at", "I", false)
  | _ => ("TermLog$PlanReader", "fault", "I", false)
def tyX4 : Nat → FieldType := fun k => match k with
  | 0 => .array .int
  | 1 => .int
  | 2 => .array .int
  | 3 => .int
  | 4 => .int
  | _ => .int
abbrev wsX40 : List Cond := u_ws RX4 TX4 6
theorem nmX4 : ∀ a, a < 6 → ∀ b, b < 6 → a ≠ b → (TX4 a).2.1 ≠ (TX4 b).2.1 := by decide +kernel
theorem tyX4_ok : ∀ k, k < 6 → parseFieldDescriptor (TX4 k).2.2.1 = some (tyX4 k) := by decide +kernel
abbrev cX4_init : ByteArray := prog_6_method_1_code
def yX4_init : MethodName := ⟨RX4, "<init>", "([I)V"⟩
abbrev cX4_signOf : ByteArray := prog_6_method_2_code
def yX4_signOf : MethodName := ⟨RX4, "signOf", "(I)I"⟩
abbrev cX4_digitOf : ByteArray := prog_6_method_3_code
def yX4_digitOf : MethodName := ⟨RX4, "digitOf", "(II)I"⟩
abbrev cX4_readPlan : ByteArray := prog_6_method_4_code
def yX4_readPlan : MethodName := ⟨RX4, "readPlan", "(I)I"⟩
abbrev cX4_sign : ByteArray := prog_6_method_5_code
def yX4_sign : MethodName := ⟨RX4, "sign", "()I"⟩
abbrev cX4_fail : ByteArray := prog_6_method_6_code
def yX4_fail : MethodName := ⟨RX4, "fail", "(II)V"⟩
abbrev cX4_readAct : ByteArray := prog_6_method_7_code
def yX4_readAct : MethodName := ⟨RX4, "readAct", "(I)V"⟩
abbrev cX4_readGroup : ByteArray := prog_6_method_8_code
def yX4_readGroup : MethodName := ⟨RX4, "readGroup", "(I)V"⟩
abbrev cX4_readSingle : ByteArray := prog_6_method_9_code
def yX4_readSingle : MethodName := ⟨RX4, "readSingle", "(I)V"⟩
abbrev cX4_repeat : ByteArray := prog_6_method_10_code
def yX4_repeat : MethodName := ⟨RX4, "repeat", "(III)V"⟩
abbrev cX4_digitCount : ByteArray := prog_6_method_11_code
def yX4_digitCount : MethodName := ⟨RX4, "digitCount", "(I)I"⟩
abbrev cX4_mostDigit : ByteArray := prog_6_method_12_code
def yX4_mostDigit : MethodName := ⟨RX4, "mostDigit", "(II)I"⟩
def RX5 : String := "TermLog$Read"
def TX5 : u_T := fun k => match k with
  | 0 => ("TermLog$Read", "state", "I", false)
  | 1 => ("TermLog$Read", "node", "I", false)
  | 2 => ("TermLog$Read", "key", "I", false)
  | 3 => ("TermLog$Read", "round", "I", false)
  | 4 => ("TermLog$Read", "heldThen", "I", false)
  | _ => ("TermLog$Read", "value", "I", false)
def tyX5 : Nat → FieldType := fun k => match k with
  | 0 => .int
  | 1 => .int
  | 2 => .int
  | 3 => .int
  | 4 => .int
  | _ => .int
abbrev wsX50 : List Cond := u_ws RX5 TX5 6
theorem nmX5 : ∀ a, a < 6 → ∀ b, b < 6 → a ≠ b → (TX5 a).2.1 ≠ (TX5 b).2.1 := by decide +kernel
theorem tyX5_ok : ∀ k, k < 6 → parseFieldDescriptor (TX5 k).2.2.1 = some (tyX5 k) := by decide +kernel
abbrev cX5_init : ByteArray := prog_7_method_1_code
def yX5_init : MethodName := ⟨RX5, "<init>", "()V"⟩
abbrev cX5_takeAll : ByteArray := prog_7_method_2_code
def yX5_takeAll : MethodName := ⟨RX5, "takeAll", "(LTermLog$Read;)V"⟩
def RX6 : String := "TermLog$Snapshot"
def TX6 : u_T := fun k => match k with
  | 0 => ("TermLog$Snapshot", "index", "I", false)
  | 1 => ("TermLog$Snapshot", "term", "I", false)
  | 2 => ("TermLog$Snapshot", "olds", "I", false)
  | 3 => ("TermLog$Snapshot", "news", "I", false)
  | _ => ("TermLog$Snapshot", "keys", "[I", true)
def tyX6 : Nat → FieldType := fun k => match k with
  | 0 => .int
  | 1 => .int
  | 2 => .int
  | 3 => .int
  | _ => .array .int
abbrev wsX60 : List Cond := u_ws RX6 TX6 5
theorem nmX6 : ∀ a, a < 5 → ∀ b, b < 5 → a ≠ b → (TX6 a).2.1 ≠ (TX6 b).2.1 := by decide +kernel
theorem tyX6_ok : ∀ k, k < 5 → parseFieldDescriptor (TX6 k).2.2.1 = some (tyX6 k) := by decide +kernel
abbrev cX6_init : ByteArray := prog_8_method_1_code
def yX6_init : MethodName := ⟨RX6, "<init>", "()V"⟩
abbrev cX6_begin : ByteArray := prog_8_method_2_code
def yX6_begin : MethodName := ⟨RX6, "begin", "(I)V"⟩
abbrev cX6_takeAll : ByteArray := prog_8_method_3_code
def yX6_takeAll : MethodName := ⟨RX6, "takeAll", "(LTermLog$Snapshot;)V"⟩
def RX7 : String := "TermLog$World"
def TX7 : u_T := fun k => match k with
  | 0 => ("TermLog$World", "law", "LTermLog$Law;", true)
  | 1 => ("TermLog$World", "nodes", "[LTermLog$Node;", true)
  | 2 => ("TermLog$World", "box", "[LTermLog$Message;", true)
  | 3 => ("TermLog$World", "boxSize", "I", false)
  | 4 => ("TermLog$World", "inHand", "LTermLog$Message;", false)
  | 5 => ("TermLog$World", "reads", "[LTermLog$Read;", true)
  | 6 => ("TermLog$World", "readCount", "I", false)
  | 7 => ("TermLog$World", "held", "[I", true)
  | 8 => ("TermLog$World", "heldTop", "I", false)
  | 9 => ("TermLog$World", "heldCount", "I", false)
  | 10 => ("TermLog$World", "ledBy", "[I", true)
  | 11 => ("TermLog$World", "cutFrom", "[I", true)
  | 12 => ("TermLog$World", "tick", "I", false)
  | 13 => ("TermLog$World", "x", "I", false)
  | 14 => ("TermLog$World", "brokenCount", "I", false)
  | _ => ("TermLog$World", "lostCount", "I", false)
def tyX7 : Nat → FieldType := fun k => match k with
  | 0 => .object "TermLog$Law"
  | 1 => .array (.object "TermLog$Node")
  | 2 => .array (.object "TermLog$Message")
  | 3 => .int
  | 4 => .object "TermLog$Message"
  | 5 => .array (.object "TermLog$Read")
  | 6 => .int
  | 7 => .array .int
  | 8 => .int
  | 9 => .int
  | 10 => .array .int
  | 11 => .array .int
  | 12 => .int
  | 13 => .int
  | 14 => .int
  | _ => .int
abbrev wsX70 : List Cond := u_ws RX7 TX7 16
theorem nmX7 : ∀ a, a < 16 → ∀ b, b < 16 → a ≠ b → (TX7 a).2.1 ≠ (TX7 b).2.1 := by decide +kernel
theorem tyX7_ok : ∀ k, k < 16 → parseFieldDescriptor (TX7 k).2.2.1 = some (tyX7 k) := by decide +kernel
abbrev cX7_init : ByteArray := prog_9_method_1_code
def yX7_init : MethodName := ⟨RX7, "<init>", "(LTermLog$Law;)V"⟩
abbrev cX7_begin : ByteArray := prog_9_method_2_code
def yX7_begin : MethodName := ⟨RX7, "begin", "(I)V"⟩
abbrev cX7_passTick : ByteArray := prog_9_method_3_code
def yX7_passTick : MethodName := ⟨RX7, "passTick", "()Z"⟩
abbrev cX7_takeOut : ByteArray := prog_9_method_4_code
def yX7_takeOut : MethodName := ⟨RX7, "takeOut", "(I)V"⟩
abbrev cX7_beat : ByteArray := prog_9_method_5_code
def yX7_beat : MethodName := ⟨RX7, "beat", "(LTermLog$Node;)V"⟩
abbrev cX7_draw : ByteArray := prog_9_method_6_code
def yX7_draw : MethodName := ⟨RX7, "draw", "()I"⟩
abbrev cX7_setTimer : ByteArray := prog_9_method_7_code
def yX7_setTimer : MethodName := ⟨RX7, "setTimer", "(LTermLog$Node;)V"⟩
abbrev cX7_spare : ByteArray := prog_9_method_8_code
def yX7_spare : MethodName := ⟨RX7, "spare", "(LTermLog$Node;II)LTermLog$Message;"⟩
abbrev cX7_post : ByteArray := prog_9_method_9_code
def yX7_post : MethodName := ⟨RX7, "post", "(LTermLog$Message;)V"⟩
abbrev cX7_lose : ByteArray := prog_9_method_10_code
def yX7_lose : MethodName := ⟨RX7, "lose", "()V"⟩
abbrev cX7_sendOn : ByteArray := prog_9_method_11_code
def yX7_sendOn : MethodName := ⟨RX7, "sendOn", "(LTermLog$Node;I)V"⟩
abbrev cX7_callForVotes : ByteArray := prog_9_method_12_code
def yX7_callForVotes : MethodName := ⟨RX7, "callForVotes", "(LTermLog$Node;)V"⟩
abbrev cX7_answer : ByteArray := prog_9_method_13_code
def yX7_answer : MethodName := ⟨RX7, "answer", "(LTermLog$Node;LTermLog$Message;ZII)V"⟩
abbrev cX7_handOver : ByteArray := prog_9_method_14_code
def yX7_handOver : MethodName := ⟨RX7, "handOver", "(LTermLog$Message;)V"⟩
abbrev cX7_grantOrNot : ByteArray := prog_9_method_15_code
def yX7_grantOrNot : MethodName := ⟨RX7, "grantOrNot", "(LTermLog$Node;LTermLog$Message;)V"⟩
abbrev cX7_takeEntries : ByteArray := prog_9_method_16_code
def yX7_takeEntries : MethodName := ⟨RX7, "takeEntries", "(LTermLog$Node;LTermLog$Message;)V"⟩
abbrev cX7_place : ByteArray := prog_9_method_17_code
def yX7_place : MethodName := ⟨RX7, "place", "(LTermLog$Node;II)Z"⟩
abbrev cX7_takeSnapshot : ByteArray := prog_9_method_18_code
def yX7_takeSnapshot : MethodName := ⟨RX7, "takeSnapshot", "(LTermLog$Node;LTermLog$Message;)V"⟩
abbrev cX7_hearAnswer : ByteArray := prog_9_method_19_code
def yX7_hearAnswer : MethodName := ⟨RX7, "hearAnswer", "(LTermLog$Node;LTermLog$Message;)V"⟩
abbrev cX7_follow : ByteArray := prog_9_method_20_code
def yX7_follow : MethodName := ⟨RX7, "follow", "(LTermLog$Node;I)V"⟩
abbrev cX7_stand : ByteArray := prog_9_method_21_code
def yX7_stand : MethodName := ⟨RX7, "stand", "(LTermLog$Node;)V"⟩
abbrev cX7_crown : ByteArray := prog_9_method_22_code
def yX7_crown : MethodName := ⟨RX7, "crown", "(LTermLog$Node;)V"⟩
abbrev cX7_goDown : ByteArray := prog_9_method_23_code
def yX7_goDown : MethodName := ⟨RX7, "goDown", "(LTermLog$Node;)V"⟩
abbrev cX7_layAndSpread : ByteArray := prog_9_method_24_code
def yX7_layAndSpread : MethodName := ⟨RX7, "layAndSpread", "(LTermLog$Node;III)I"⟩
abbrev cX7_hold : ByteArray := prog_9_method_25_code
def yX7_hold : MethodName := ⟨RX7, "hold", "(LTermLog$Node;)V"⟩
abbrev cX7_leave : ByteArray := prog_9_method_26_code
def yX7_leave : MethodName := ⟨RX7, "leave", "(LTermLog$Node;)V"⟩
abbrev cX7_raiseCommit : ByteArray := prog_9_method_27_code
def yX7_raiseCommit : MethodName := ⟨RX7, "raiseCommit", "(LTermLog$Node;I)V"⟩
abbrev cX7_seeHeld : ByteArray := prog_9_method_28_code
def yX7_seeHeld : MethodName := ⟨RX7, "seeHeld", "(LTermLog$Node;II)V"⟩
abbrev cX7_openRead : ByteArray := prog_9_method_29_code
def yX7_openRead : MethodName := ⟨RX7, "openRead", "(LTermLog$Node;I)I"⟩
abbrev cX7_answerReads : ByteArray := prog_9_method_30_code
def yX7_answerReads : MethodName := ⟨RX7, "answerReads", "(LTermLog$Node;)V"⟩
abbrev cX7_loseReads : ByteArray := prog_9_method_31_code
def yX7_loseReads : MethodName := ⟨RX7, "loseReads", "(LTermLog$Node;)V"⟩
abbrev cX7_setLink : ByteArray := prog_9_method_32_code
def yX7_setLink : MethodName := ⟨RX7, "setLink", "(IIZ)V"⟩
abbrev cX7_cutCount : ByteArray := prog_9_method_33_code
def yX7_cutCount : MethodName := ⟨RX7, "cutCount", "()I"⟩
abbrev cX7_upBits : ByteArray := prog_9_method_34_code
def yX7_upBits : MethodName := ⟨RX7, "upBits", "()I"⟩
abbrev cX7_firstLeader : ByteArray := prog_9_method_35_code
def yX7_firstLeader : MethodName := ⟨RX7, "firstLeader", "()I"⟩
abbrev cX7_furthestUp : ByteArray := prog_9_method_36_code
def yX7_furthestUp : MethodName := ⟨RX7, "furthestUp", "()LTermLog$Node;"⟩
abbrev cX7_allUpHaveHeld : ByteArray := prog_9_method_37_code
def yX7_allUpHaveHeld : MethodName := ⟨RX7, "allUpHaveHeld", "()Z"⟩
abbrev cX7_unmatchedTwos : ByteArray := prog_9_method_38_code
def yX7_unmatchedTwos : MethodName := ⟨RX7, "unmatchedTwos", "()I"⟩
abbrev cX7_unlikeTwos : ByteArray := prog_9_method_39_code
def yX7_unlikeTwos : MethodName := ⟨RX7, "unlikeTwos", "()I"⟩
abbrev cX7_isUnlike : ByteArray := prog_9_method_40_code
def yX7_isUnlike : MethodName := ⟨RX7, "isUnlike", "(LTermLog$Node;LTermLog$Node;)Z"⟩
abbrev cX7_grantingTo : ByteArray := prog_9_method_41_code
def yX7_grantingTo : MethodName := ⟨RX7, "grantingTo", "(LTermLog$Node;)I"⟩
abbrev cX7_wouldGrant : ByteArray := prog_9_method_42_code
def yX7_wouldGrant : MethodName := ⟨RX7, "wouldGrant", "(LTermLog$Node;LTermLog$Node;)Z"⟩
abbrev cX7_takeAll : ByteArray := prog_9_method_43_code
def yX7_takeAll : MethodName := ⟨RX7, "takeAll", "(LTermLog$World;)V"⟩
def RX8 : String := "TermLog"
def TX8 : u_T := fun k => match k with
  | 0 => ("TermLog", "law", "LTermLog$Law;", true)
  | 1 => ("TermLog", "now", "LTermLog$World;", true)
  | 2 => ("TermLog", "tryOut", "LTermLog$World;", true)
  | 3 => ("TermLog", "keptWorld", "LTermLog$World;", true)
  | 4 => ("TermLog", "wasKept", "Z", false)
  | 5 => ("TermLog", "tape", "[I", true)
  | 6 => ("TermLog", "tapeSize", "I", false)
  | 7 => ("TermLog", "lawReader", "LTermLog$LawReader;", true)
  | _ => ("TermLog", "planReader", "LTermLog$PlanReader;", true)
def tyX8 : Nat → FieldType := fun k => match k with
  | 0 => .object "TermLog$Law"
  | 1 => .object "TermLog$World"
  | 2 => .object "TermLog$World"
  | 3 => .object "TermLog$World"
  | 4 => .boolean
  | 5 => .array .int
  | 6 => .int
  | 7 => .object "TermLog$LawReader"
  | _ => .object "TermLog$PlanReader"
abbrev wsX80 : List Cond := u_ws RX8 TX8 9
theorem nmX8 : ∀ a, a < 9 → ∀ b, b < 9 → a ≠ b → (TX8 a).2.1 ≠ (TX8 b).2.1 := by decide +kernel
theorem tyX8_ok : ∀ k, k < 9 → parseFieldDescriptor (TX8 k).2.2.1 = some (tyX8 k) := by decide +kernel
abbrev cX8_init : ByteArray := prog_1_method_1_code
def yX8_init : MethodName := ⟨RX8, "<init>", "()V"⟩
abbrev cX8_found : ByteArray := prog_1_method_2_code
def yX8_found : MethodName := ⟨RX8, "found", "(I)Z"⟩
abbrev cX8_crash : ByteArray := prog_1_method_3_code
def yX8_crash : MethodName := ⟨RX8, "crash", "(I)Z"⟩
abbrev cX8_comeUp : ByteArray := prog_1_method_4_code
def yX8_comeUp : MethodName := ⟨RX8, "comeUp", "(I)Z"⟩
abbrev cX8_cut : ByteArray := prog_1_method_5_code
def yX8_cut : MethodName := ⟨RX8, "cut", "(IIZ)Z"⟩
abbrev cX8_compact : ByteArray := prog_1_method_6_code
def yX8_compact : MethodName := ⟨RX8, "compact", "(I)Z"⟩
abbrev cX8_write : ByteArray := prog_1_method_7_code
def yX8_write : MethodName := ⟨RX8, "write", "(III)I"⟩
abbrev cX8_change : ByteArray := prog_1_method_8_code
def yX8_change : MethodName := ⟨RX8, "change", "(II)I"⟩
abbrev cX8_ask : ByteArray := prog_1_method_9_code
def yX8_ask : MethodName := ⟨RX8, "ask", "(II)I"⟩
abbrev cX8_ticks : ByteArray := prog_1_method_10_code
def yX8_ticks : MethodName := ⟨RX8, "ticks", "(I)I"⟩
abbrev cX8_seed : ByteArray := prog_1_method_11_code
def yX8_seed : MethodName := ⟨RX8, "seed", "(I)Z"⟩
abbrev cX8_keep : ByteArray := prog_1_method_12_code
def yX8_keep : MethodName := ⟨RX8, "keep", "()I"⟩
abbrev cX8_undo : ByteArray := prog_1_method_13_code
def yX8_undo : MethodName := ⟨RX8, "undo", "()Z"⟩
abbrev cX8_feed : ByteArray := prog_1_method_14_code
def yX8_feed : MethodName := ⟨RX8, "feed", "(IIIII)I"⟩
abbrev cX8_law : ByteArray := prog_1_method_15_code
def yX8_law : MethodName := ⟨RX8, "law", "(I)I"⟩
abbrev cX8_plan : ByteArray := prog_1_method_16_code
def yX8_plan : MethodName := ⟨RX8, "plan", "(I)I"⟩
abbrev cX8_check : ByteArray := prog_1_method_17_code
def yX8_check : MethodName := ⟨RX8, "check", "(I)I"⟩
abbrev cX8_tried : ByteArray := prog_1_method_18_code
def yX8_tried : MethodName := ⟨RX8, "tried", "(II)I"⟩
abbrev cX8_nodeIs : ByteArray := prog_1_method_19_code
def yX8_nodeIs : MethodName := ⟨RX8, "nodeIs", "(II)I"⟩
abbrev cX8_entryAt : ByteArray := prog_1_method_20_code
def yX8_entryAt : MethodName := ⟨RX8, "entryAt", "(III)I"⟩
abbrev cX8_keyOf : ByteArray := prog_1_method_21_code
def yX8_keyOf : MethodName := ⟨RX8, "keyOf", "(II)I"⟩
abbrev cX8_about : ByteArray := prog_1_method_22_code
def yX8_about : MethodName := ⟨RX8, "about", "(III)I"⟩
abbrev cX8_message : ByteArray := prog_1_method_23_code
def yX8_message : MethodName := ⟨RX8, "message", "(II)I"⟩
abbrev cX8_leaderNow : ByteArray := prog_1_method_24_code
def yX8_leaderNow : MethodName := ⟨RX8, "leaderNow", "()I"⟩
abbrev cX8_heldAt : ByteArray := prog_1_method_25_code
def yX8_heldAt : MethodName := ⟨RX8, "heldAt", "(II)I"⟩
abbrev cX8_readIs : ByteArray := prog_1_method_26_code
def yX8_readIs : MethodName := ⟨RX8, "readIs", "(II)I"⟩
abbrev cX8_broken : ByteArray := prog_1_method_27_code
def yX8_broken : MethodName := ⟨RX8, "broken", "(I)I"⟩
abbrev cX8_couldWin : ByteArray := prog_1_method_28_code
def yX8_couldWin : MethodName := ⟨RX8, "couldWin", "(II)I"⟩
abbrev cX8_majority : ByteArray := prog_1_method_29_code
def yX8_majority : MethodName := ⟨RX8, "majority", "(II)I"⟩
abbrev cX8_till : ByteArray := prog_1_method_30_code
def yX8_till : MethodName := ⟨RX8, "till", "(II)I"⟩
abbrev cX8_count : ByteArray := prog_1_method_31_code
def yX8_count : MethodName := ⟨RX8, "count", "(I)I"⟩
abbrev cX8_isNode : ByteArray := prog_1_method_32_code
def yX8_isNode : MethodName := ⟨RX8, "isNode", "(I)Z"⟩
abbrev cX8_isKey : ByteArray := prog_1_method_33_code
def yX8_isKey : MethodName := ⟨RX8, "isKey", "(I)Z"⟩
abbrev cX8_isTickCount : ByteArray := prog_1_method_34_code
def yX8_isTickCount : MethodName := ⟨RX8, "isTickCount", "(I)Z"⟩
abbrev cX8_isEntryPart : ByteArray := prog_1_method_35_code
def yX8_isEntryPart : MethodName := ⟨RX8, "isEntryPart", "(I)Z"⟩
abbrev cX8_isTriedWhat : ByteArray := prog_1_method_36_code
def yX8_isTriedWhat : MethodName := ⟨RX8, "isTriedWhat", "(I)Z"⟩
abbrev cX8_hasCome : ByteArray := prog_1_method_37_code
def yX8_hasCome : MethodName := ⟨RX8, "hasCome", "(LTermLog$World;I)Z"⟩
abbrev cX8_layOnTape : ByteArray := prog_1_method_38_code
def yX8_layOnTape : MethodName := ⟨RX8, "layOnTape", "(I)V"⟩
abbrev cX8_perform : ByteArray := prog_1_method_39_code
def yX8_perform : MethodName := ⟨RX8, "perform", "(I)Z"⟩
abbrev cX8_entryOf : ByteArray := prog_1_method_40_code
def yX8_entryOf : MethodName := ⟨RX8, "entryOf", "(IIII)I"⟩
abbrev cX8_termOf : ByteArray := prog_1_method_41_code
def yX8_termOf : MethodName := ⟨RX8, "termOf", "(I)I"⟩
abbrev cX8_kindOf : ByteArray := prog_1_method_42_code
def yX8_kindOf : MethodName := ⟨RX8, "kindOf", "(I)I"⟩
abbrev cX8_firstOf : ByteArray := prog_1_method_43_code
def yX8_firstOf : MethodName := ⟨RX8, "firstOf", "(I)I"⟩
abbrev cX8_secondOf : ByteArray := prog_1_method_44_code
def yX8_secondOf : MethodName := ⟨RX8, "secondOf", "(I)I"⟩
abbrev cX8_partOf : ByteArray := prog_1_method_45_code
def yX8_partOf : MethodName := ⟨RX8, "partOf", "(II)I"⟩
abbrev cX8_has : ByteArray := prog_1_method_46_code
def yX8_has : MethodName := ⟨RX8, "has", "(II)Z"⟩
abbrev cX8_isMajorityOf : ByteArray := prog_1_method_47_code
def yX8_isMajorityOf : MethodName := ⟨RX8, "isMajorityOf", "(III)Z"⟩
def RX9 : String := "TermLogModel"
def TX9 : u_T := fun k => match k with
  | 0 => ("TermLogModel", "now", "[I", true)
  | 1 => ("TermLogModel", "aside", "[I", true)
  | 2 => ("TermLogModel", "kept", "[I", true)
  | 3 => ("TermLogModel", "mailNow", "[I", true)
  | 4 => ("TermLogModel", "mailIn", "[I", true)
  | 5 => ("TermLogModel", "tape", "[B", true)
  | 6 => ("TermLogModel", "taped", "I", false)
  | 7 => ("TermLogModel", "place0", "I", false)
  | 8 => ("TermLogModel", "length0", "I", false)
  | 9 => ("TermLogModel", "fault", "I", false)
  | 10 => ("TermLogModel", "number0", "I", false)
  | 11 => ("TermLogModel", "open", "I", false)
  | 12 => ("TermLogModel", "codeMany", "I", false)
  | 13 => ("TermLogModel", "waiting", "I", false)
  | 14 => ("TermLogModel", "saidMany", "I", false)
  | 15 => ("TermLogModel", "clauses", "I", false)
  | 16 => ("TermLogModel", "said", "[I", true)
  | 17 => ("TermLogModel", "waitsAt", "[I", true)
  | 18 => ("TermLogModel", "saidLetter", "[I", true)
  | 19 => ("TermLogModel", "saidFrom", "[I", true)
  | 20 => ("TermLogModel", "saidHalf", "[I", true)
  | 21 => ("TermLogModel", "saidTo", "[I", true)
  | 22 => ("TermLogModel", "codes", "[I", true)
  | 23 => ("TermLogModel", "clauseOf", "[I", true)
  | 24 => ("TermLogModel", "codeFrom", "[I", true)
  | 25 => ("TermLogModel", "codeHalf", "[I", true)
  | 26 => ("TermLogModel", "codeTo", "[I", true)
  | 27 => ("TermLogModel", "stack", "[I", true)
  | 28 => ("TermLogModel", "facts", "[I", true)
  | 29 => ("TermLogModel", "heldNow", "I", false)
  | 30 => ("TermLogModel", "actOf", "[I", true)
  | 31 => ("TermLogModel", "actA", "[I", true)
  | 32 => ("TermLogModel", "actB", "[I", true)
  | 33 => ("TermLogModel", "actC", "[I", true)
  | 34 => ("TermLogModel", "roundFrom", "[I", true)
  | 35 => ("TermLogModel", "roundAt", "[I", true)
  | 36 => ("TermLogModel", "roundTimes", "[I", true)
  | 37 => ("TermLogModel", "actMany", "I", false)
  | 38 => ("TermLogModel", "rounds", "I", false)
  | 39 => ("TermLogModel", "itFrom", "I", false)
  | 40 => ("TermLogModel", "itTimes", "I", false)
  | 41 => ("TermLogModel", "numberA", "I", false)
  | 42 => ("TermLogModel", "numberB", "I", false)
  | 43 => ("TermLogModel", "numberC", "I", false)
  | _ => ("TermLogModel", "isKept", "Z", false)
def tyX9 : Nat → FieldType := fun k => match k with
  | 0 => .array .int
  | 1 => .array .int
  | 2 => .array .int
  | 3 => .array .int
  | 4 => .array .int
  | 5 => .array .byte
  | 6 => .int
  | 7 => .int
  | 8 => .int
  | 9 => .int
  | 10 => .int
  | 11 => .int
  | 12 => .int
  | 13 => .int
  | 14 => .int
  | 15 => .int
  | 16 => .array .int
  | 17 => .array .int
  | 18 => .array .int
  | 19 => .array .int
  | 20 => .array .int
  | 21 => .array .int
  | 22 => .array .int
  | 23 => .array .int
  | 24 => .array .int
  | 25 => .array .int
  | 26 => .array .int
  | 27 => .array .int
  | 28 => .array .int
  | 29 => .int
  | 30 => .array .int
  | 31 => .array .int
  | 32 => .array .int
  | 33 => .array .int
  | 34 => .array .int
  | 35 => .array .int
  | 36 => .array .int
  | 37 => .int
  | 38 => .int
  | 39 => .int
  | 40 => .int
  | 41 => .int
  | 42 => .int
  | 43 => .int
  | _ => .boolean
abbrev wsX90 : List Cond := u_ws RX9 TX9 45
theorem nmX9 : ∀ a, a < 45 → ∀ b, b < 45 → a ≠ b → (TX9 a).2.1 ≠ (TX9 b).2.1 := by decide +kernel
theorem tyX9_ok : ∀ k, k < 45 → parseFieldDescriptor (TX9 k).2.2.1 = some (tyX9 k) := by decide +kernel
abbrev cX9_init : ByteArray := prog_11_method_1_code
def yX9_init : MethodName := ⟨RX9, "<init>", "()V"⟩
abbrev cX9_in : ByteArray := prog_11_method_2_code
def yX9_in : MethodName := ⟨RX9, "in", "(III)Z"⟩
abbrev cX9_min : ByteArray := prog_11_method_3_code
def yX9_min : MethodName := ⟨RX9, "min", "(II)I"⟩
abbrev cX9_max : ByteArray := prog_11_method_4_code
def yX9_max : MethodName := ⟨RX9, "max", "(II)I"⟩
abbrev cX9_has : ByteArray := prog_11_method_5_code
def yX9_has : MethodName := ⟨RX9, "has", "(II)Z"⟩
abbrev cX9_bits : ByteArray := prog_11_method_6_code
def yX9_bits : MethodName := ⟨RX9, "bits", "(I)I"⟩
abbrev cX9_copies : ByteArray := prog_11_method_7_code
def yX9_copies : MethodName := ⟨RX9, "copies", "([I[I)V"⟩
abbrev cX9_isNode : ByteArray := prog_11_method_8_code
def yX9_isNode : MethodName := ⟨RX9, "isNode", "(I)Z"⟩
abbrev cX9_the : ByteArray := prog_11_method_9_code
def yX9_the : MethodName := ⟨RX9, "the", "(II)I"⟩
abbrev cX9_sets : ByteArray := prog_11_method_10_code
def yX9_sets : MethodName := ⟨RX9, "sets", "(III)V"⟩
abbrev cX9_isUp : ByteArray := prog_11_method_11_code
def yX9_isUp : MethodName := ⟨RX9, "isUp", "(I)Z"⟩
abbrev cX9_isLeader : ByteArray := prog_11_method_12_code
def yX9_isLeader : MethodName := ⟨RX9, "isLeader", "(I)Z"⟩
abbrev cX9_lastOf : ByteArray := prog_11_method_13_code
def yX9_lastOf : MethodName := ⟨RX9, "lastOf", "(I)I"⟩
abbrev cX9_logPlace : ByteArray := prog_11_method_14_code
def yX9_logPlace : MethodName := ⟨RX9, "logPlace", "(II)I"⟩
abbrev cX9_hasEntry : ByteArray := prog_11_method_15_code
def yX9_hasEntry : MethodName := ⟨RX9, "hasEntry", "(II)Z"⟩
abbrev cX9_termAt : ByteArray := prog_11_method_16_code
def yX9_termAt : MethodName := ⟨RX9, "termAt", "(II)I"⟩
abbrev cX9_configAt : ByteArray := prog_11_method_17_code
def yX9_configAt : MethodName := ⟨RX9, "configAt", "(II)I"⟩
abbrev cX9_oldOf : ByteArray := prog_11_method_18_code
def yX9_oldOf : MethodName := ⟨RX9, "oldOf", "(I)I"⟩
abbrev cX9_newOf : ByteArray := prog_11_method_19_code
def yX9_newOf : MethodName := ⟨RX9, "newOf", "(I)I"⟩
abbrev cX9_membersOf : ByteArray := prog_11_method_20_code
def yX9_membersOf : MethodName := ⟨RX9, "membersOf", "(I)I"⟩
abbrev cX9_isHeldConfig : ByteArray := prog_11_method_21_code
def yX9_isHeldConfig : MethodName := ⟨RX9, "isHeldConfig", "(I)Z"⟩
abbrev cX9_isMost : ByteArray := prog_11_method_22_code
def yX9_isMost : MethodName := ⟨RX9, "isMost", "(II)Z"⟩
abbrev cX9_goesUpTo : ByteArray := prog_11_method_23_code
def yX9_goesUpTo : MethodName := ⟨RX9, "goesUpTo", "(II)V"⟩
abbrev cX9_compacts : ByteArray := prog_11_method_24_code
def yX9_compacts : MethodName := ⟨RX9, "compacts", "(I)V"⟩
abbrev cX9_lays : ByteArray := prog_11_method_25_code
def yX9_lays : MethodName := ⟨RX9, "lays", "(IIIII)Z"⟩
abbrev cX9_types : ByteArray := prog_11_method_26_code
def yX9_types : MethodName := ⟨RX9, "types", "(I)V"⟩
abbrev cX9_feed : ByteArray := prog_11_method_27_code
def yX9_feed : MethodName := ⟨RX9, "feed", "(IIIII)I"⟩
abbrev cX9_octet : ByteArray := prog_11_method_28_code
def yX9_octet : MethodName := ⟨RX9, "octet", "(I)I"⟩
abbrev cX9_here : ByteArray := prog_11_method_29_code
def yX9_here : MethodName := ⟨RX9, "here", "()I"⟩
abbrev cX9_isDigit : ByteArray := prog_11_method_30_code
def yX9_isDigit : MethodName := ⟨RX9, "isDigit", "()Z"⟩
abbrev cX9_wrongAt : ByteArray := prog_11_method_31_code
def yX9_wrongAt : MethodName := ⟨RX9, "wrongAt", "(II)Z"⟩
abbrev cX9_takes : ByteArray := prog_11_method_32_code
def yX9_takes : MethodName := ⟨RX9, "takes", "(I)Z"⟩
abbrev cX9_readsNumber : ByteArray := prog_11_method_33_code
def yX9_readsNumber : MethodName := ⟨RX9, "readsNumber", "()Z"⟩
abbrev cX9_notes : ByteArray := prog_11_method_34_code
def yX9_notes : MethodName := ⟨RX9, "notes", "(II)V"⟩
abbrev cX9_opens : ByteArray := prog_11_method_35_code
def yX9_opens : MethodName := ⟨RX9, "opens", "(I)Z"⟩
abbrev cX9_waitTop : ByteArray := prog_11_method_36_code
def yX9_waitTop : MethodName := ⟨RX9, "waitTop", "()I"⟩
abbrev cX9_factOf : ByteArray := prog_11_method_37_code
def yX9_factOf : MethodName := ⟨RX9, "factOf", "(I)I"⟩
abbrev cX9_sumSign : ByteArray := prog_11_method_38_code
def yX9_sumSign : MethodName := ⟨RX9, "sumSign", "(I)I"⟩
abbrev cX9_closesSums : ByteArray := prog_11_method_39_code
def yX9_closesSums : MethodName := ⟨RX9, "closesSums", "(Z)V"⟩
abbrev cX9_readsFactor : ByteArray := prog_11_method_40_code
def yX9_readsFactor : MethodName := ⟨RX9, "readsFactor", "()Z"⟩
abbrev cX9_hasOpenSum : ByteArray := prog_11_method_41_code
def yX9_hasOpenSum : MethodName := ⟨RX9, "hasOpenSum", "(I)Z"⟩
abbrev cX9_readsSum : ByteArray := prog_11_method_42_code
def yX9_readsSum : MethodName := ⟨RX9, "readsSum", "()Z"⟩
abbrev cX9_endsPiece : ByteArray := prog_11_method_43_code
def yX9_endsPiece : MethodName := ⟨RX9, "endsPiece", "()V"⟩
abbrev cX9_lands : ByteArray := prog_11_method_44_code
def yX9_lands : MethodName := ⟨RX9, "lands", "(Z)V"⟩
abbrev cX9_jumps : ByteArray := prog_11_method_45_code
def yX9_jumps : MethodName := ⟨RX9, "jumps", "(I)V"⟩
abbrev cX9_readsCompared : ByteArray := prog_11_method_46_code
def yX9_readsCompared : MethodName := ⟨RX9, "readsCompared", "()Z"⟩
abbrev cX9_readsCondition : ByteArray := prog_11_method_47_code
def yX9_readsCondition : MethodName := ⟨RX9, "readsCondition", "()Z"⟩
abbrev cX9_readsRule : ByteArray := prog_11_method_48_code
def yX9_readsRule : MethodName := ⟨RX9, "readsRule", "()Z"⟩
abbrev cX9_beginsText : ByteArray := prog_11_method_49_code
def yX9_beginsText : MethodName := ⟨RX9, "beginsText", "(I)V"⟩
abbrev cX9_law : ByteArray := prog_11_method_50_code
def yX9_law : MethodName := ⟨RX9, "law", "(I)I"⟩
abbrev cX9_reckon : ByteArray := prog_11_method_51_code
def yX9_reckon : MethodName := ⟨RX9, "reckon", "(III)I"⟩
abbrev cX9_reckonsTo : ByteArray := prog_11_method_52_code
def yX9_reckonsTo : MethodName := ⟨RX9, "reckonsTo", "(II)I"⟩
abbrev cX9_byLaw : ByteArray := prog_11_method_53_code
def yX9_byLaw : MethodName := ⟨RX9, "byLaw", "(IIII)I"⟩
abbrev cX9_holdsAny : ByteArray := prog_11_method_54_code
def yX9_holdsAny : MethodName := ⟨RX9, "holdsAny", "(I)Z"⟩
abbrev cX9_feels : ByteArray := prog_11_method_55_code
def yX9_feels : MethodName := ⟨RX9, "feels", "(III)I"⟩
abbrev cX9_setsTimer : ByteArray := prog_11_method_56_code
def yX9_setsTimer : MethodName := ⟨RX9, "setsTimer", "(I)V"⟩
abbrev cX9_beginsMail : ByteArray := prog_11_method_57_code
def yX9_beginsMail : MethodName := ⟨RX9, "beginsMail", "(III)V"⟩
abbrev cX9_loses : ByteArray := prog_11_method_58_code
def yX9_loses : MethodName := ⟨RX9, "loses", "()V"⟩
abbrev cX9_posts : ByteArray := prog_11_method_59_code
def yX9_posts : MethodName := ⟨RX9, "posts", "()V"⟩
abbrev cX9_answersBy : ByteArray := prog_11_method_60_code
def yX9_answersBy : MethodName := ⟨RX9, "answersBy", "(IIII)V"⟩
abbrev cX9_sendsOn : ByteArray := prog_11_method_61_code
def yX9_sendsOn : MethodName := ⟨RX9, "sendsOn", "(II)V"⟩
abbrev cX9_tellsSnapshot : ByteArray := prog_11_method_62_code
def yX9_tellsSnapshot : MethodName := ⟨RX9, "tellsSnapshot", "(I)V"⟩
abbrev cX9_tellsEntries : ByteArray := prog_11_method_63_code
def yX9_tellsEntries : MethodName := ⟨RX9, "tellsEntries", "(II)V"⟩
abbrev cX9_sendsToAll : ByteArray := prog_11_method_64_code
def yX9_sendsToAll : MethodName := ⟨RX9, "sendsToAll", "(I)V"⟩
abbrev cX9_losesReads : ByteArray := prog_11_method_65_code
def yX9_losesReads : MethodName := ⟨RX9, "losesReads", "(I)V"⟩
abbrev cX9_follows : ByteArray := prog_11_method_66_code
def yX9_follows : MethodName := ⟨RX9, "follows", "(II)V"⟩
abbrev cX9_stands : ByteArray := prog_11_method_67_code
def yX9_stands : MethodName := ⟨RX9, "stands", "(I)V"⟩
abbrev cX9_leads : ByteArray := prog_11_method_68_code
def yX9_leads : MethodName := ⟨RX9, "leads", "(I)V"⟩
abbrev cX9_laidByLeader : ByteArray := prog_11_method_69_code
def yX9_laidByLeader : MethodName := ⟨RX9, "laidByLeader", "(I)V"⟩
abbrev cX9_breaks : ByteArray := prog_11_method_70_code
def yX9_breaks : MethodName := ⟨RX9, "breaks", "()V"⟩
abbrev cX9_seesHeld : ByteArray := prog_11_method_71_code
def yX9_seesHeld : MethodName := ⟨RX9, "seesHeld", "(II)V"⟩
abbrev cX9_growsCommit : ByteArray := prog_11_method_72_code
def yX9_growsCommit : MethodName := ⟨RX9, "growsCommit", "(II)V"⟩
abbrev cX9_whoMatch : ByteArray := prog_11_method_73_code
def yX9_whoMatch : MethodName := ⟨RX9, "whoMatch", "(II)I"⟩
abbrev cX9_mostHeld : ByteArray := prog_11_method_74_code
def yX9_mostHeld : MethodName := ⟨RX9, "mostHeld", "(I)I"⟩
abbrev cX9_holds : ByteArray := prog_11_method_75_code
def yX9_holds : MethodName := ⟨RX9, "holds", "(I)V"⟩
abbrev cX9_whoHeard : ByteArray := prog_11_method_76_code
def yX9_whoHeard : MethodName := ⟨RX9, "whoHeard", "(II)I"⟩
abbrev cX9_answersReads : ByteArray := prog_11_method_77_code
def yX9_answersReads : MethodName := ⟨RX9, "answersReads", "(I)V"⟩
abbrev cX9_areLinked : ByteArray := prog_11_method_78_code
def yX9_areLinked : MethodName := ⟨RX9, "areLinked", "(II)Z"⟩
abbrev cX9_takesDue : ByteArray := prog_11_method_79_code
def yX9_takesDue : MethodName := ⟨RX9, "takesDue", "()Z"⟩
abbrev cX9_isHanded : ByteArray := prog_11_method_80_code
def yX9_isHanded : MethodName := ⟨RX9, "isHanded", "()V"⟩
abbrev cX9_isNoLess : ByteArray := prog_11_method_81_code
def yX9_isNoLess : MethodName := ⟨RX9, "isNoLess", "(III)Z"⟩
abbrev cX9_isAskedToVote : ByteArray := prog_11_method_82_code
def yX9_isAskedToVote : MethodName := ⟨RX9, "isAskedToVote", "(I)V"⟩
abbrev cX9_hasVote : ByteArray := prog_11_method_83_code
def yX9_hasVote : MethodName := ⟨RX9, "hasVote", "(I)V"⟩
abbrev cX9_firstOfTerm : ByteArray := prog_11_method_84_code
def yX9_firstOfTerm : MethodName := ⟨RX9, "firstOfTerm", "(II)I"⟩
abbrev cX9_hasEntries : ByteArray := prog_11_method_85_code
def yX9_hasEntries : MethodName := ⟨RX9, "hasEntries", "(I)V"⟩
abbrev cX9_laysAs : ByteArray := prog_11_method_86_code
def yX9_laysAs : MethodName := ⟨RX9, "laysAs", "(III)Z"⟩
abbrev cX9_isOfLeader : ByteArray := prog_11_method_87_code
def yX9_isOfLeader : MethodName := ⟨RX9, "isOfLeader", "(I)Z"⟩
abbrev cX9_matches : ByteArray := prog_11_method_88_code
def yX9_matches : MethodName := ⟨RX9, "matches", "(II)V"⟩
abbrev cX9_hearsOfEntries : ByteArray := prog_11_method_89_code
def yX9_hearsOfEntries : MethodName := ⟨RX9, "hearsOfEntries", "(I)V"⟩
abbrev cX9_hasSnapshot : ByteArray := prog_11_method_90_code
def yX9_hasSnapshot : MethodName := ⟨RX9, "hasSnapshot", "(I)V"⟩
abbrev cX9_hearsOfSnapshot : ByteArray := prog_11_method_91_code
def yX9_hearsOfSnapshot : MethodName := ⟨RX9, "hearsOfSnapshot", "(I)V"⟩
abbrev cX9_tickGoes : ByteArray := prog_11_method_92_code
def yX9_tickGoes : MethodName := ⟨RX9, "tickGoes", "()V"⟩
abbrev cX9_nodeGoes : ByteArray := prog_11_method_93_code
def yX9_nodeGoes : MethodName := ⟨RX9, "nodeGoes", "(I)V"⟩
abbrev cX9_asksAll : ByteArray := prog_11_method_94_code
def yX9_asksAll : MethodName := ⟨RX9, "asksAll", "(I)V"⟩
abbrev cX9_oneTick : ByteArray := prog_11_method_95_code
def yX9_oneTick : MethodName := ⟨RX9, "oneTick", "()Z"⟩
abbrev cX9_ticksGo : ByteArray := prog_11_method_96_code
def yX9_ticksGo : MethodName := ⟨RX9, "ticksGo", "(I)V"⟩
abbrev cX9_ticks : ByteArray := prog_11_method_97_code
def yX9_ticks : MethodName := ⟨RX9, "ticks", "(I)I"⟩
abbrev cX9_founds : ByteArray := prog_11_method_98_code
def yX9_founds : MethodName := ⟨RX9, "founds", "(I)V"⟩
abbrev cX9_found : ByteArray := prog_11_method_99_code
def yX9_found : MethodName := ⟨RX9, "found", "(I)Z"⟩
abbrev cX9_crash : ByteArray := prog_11_method_100_code
def yX9_crash : MethodName := ⟨RX9, "crash", "(I)Z"⟩
abbrev cX9_comeUp : ByteArray := prog_11_method_101_code
def yX9_comeUp : MethodName := ⟨RX9, "comeUp", "(I)Z"⟩
abbrev cX9_cut : ByteArray := prog_11_method_102_code
def yX9_cut : MethodName := ⟨RX9, "cut", "(IIZ)Z"⟩
abbrev cX9_compact : ByteArray := prog_11_method_103_code
def yX9_compact : MethodName := ⟨RX9, "compact", "(I)Z"⟩
abbrev cX9_isFull : ByteArray := prog_11_method_104_code
def yX9_isFull : MethodName := ⟨RX9, "isFull", "(I)Z"⟩
abbrev cX9_write : ByteArray := prog_11_method_105_code
def yX9_write : MethodName := ⟨RX9, "write", "(III)I"⟩
abbrev cX9_change : ByteArray := prog_11_method_106_code
def yX9_change : MethodName := ⟨RX9, "change", "(II)I"⟩
abbrev cX9_ask : ByteArray := prog_11_method_107_code
def yX9_ask : MethodName := ⟨RX9, "ask", "(II)I"⟩
abbrev cX9_readsTimes : ByteArray := prog_11_method_108_code
def yX9_readsTimes : MethodName := ⟨RX9, "readsTimes", "()V"⟩
abbrev cX9_repeats : ByteArray := prog_11_method_109_code
def yX9_repeats : MethodName := ⟨RX9, "repeats", "(III)Z"⟩
abbrev cX9_readsDigit : ByteArray := prog_11_method_110_code
def yX9_readsDigit : MethodName := ⟨RX9, "readsDigit", "(I)Z"⟩
abbrev cX9_readsNumbers : ByteArray := prog_11_method_111_code
def yX9_readsNumbers : MethodName := ⟨RX9, "readsNumbers", "(I)Z"⟩
abbrev cX9_isAct : ByteArray := prog_11_method_112_code
def yX9_isAct : MethodName := ⟨RX9, "isAct", "(I)Z"⟩
abbrev cX9_readsAct : ByteArray := prog_11_method_113_code
def yX9_readsAct : MethodName := ⟨RX9, "readsAct", "()Z"⟩
abbrev cX9_isDone : ByteArray := prog_11_method_114_code
def yX9_isDone : MethodName := ⟨RX9, "isDone", "(I)Z"⟩
abbrev cX9_plan : ByteArray := prog_11_method_115_code
def yX9_plan : MethodName := ⟨RX9, "plan", "(I)I"⟩
abbrev cX9_leading : ByteArray := prog_11_method_116_code
def yX9_leading : MethodName := ⟨RX9, "leading", "()I"⟩
abbrev cX9_leaderNow : ByteArray := prog_11_method_117_code
def yX9_leaderNow : MethodName := ⟨RX9, "leaderNow", "()I"⟩
abbrev cX9_tried : ByteArray := prog_11_method_118_code
def yX9_tried : MethodName := ⟨RX9, "tried", "(II)I"⟩
abbrev cX9_orNone : ByteArray := prog_11_method_119_code
def yX9_orNone : MethodName := ⟨RX9, "orNone", "(I)I"⟩
abbrev cX9_nodeIs : ByteArray := prog_11_method_120_code
def yX9_nodeIs : MethodName := ⟨RX9, "nodeIs", "(II)I"⟩
abbrev cX9_entryAt : ByteArray := prog_11_method_121_code
def yX9_entryAt : MethodName := ⟨RX9, "entryAt", "(III)I"⟩
abbrev cX9_keyOf : ByteArray := prog_11_method_122_code
def yX9_keyOf : MethodName := ⟨RX9, "keyOf", "(II)I"⟩
abbrev cX9_about : ByteArray := prog_11_method_123_code
def yX9_about : MethodName := ⟨RX9, "about", "(III)I"⟩
abbrev cX9_message : ByteArray := prog_11_method_124_code
def yX9_message : MethodName := ⟨RX9, "message", "(II)I"⟩
abbrev cX9_heldAt : ByteArray := prog_11_method_125_code
def yX9_heldAt : MethodName := ⟨RX9, "heldAt", "(II)I"⟩
abbrev cX9_readIs : ByteArray := prog_11_method_126_code
def yX9_readIs : MethodName := ⟨RX9, "readIs", "(II)I"⟩
abbrev cX9_areSame : ByteArray := prog_11_method_127_code
def yX9_areSame : MethodName := ⟨RX9, "areSame", "(III)Z"⟩
abbrev cX9_areMatched : ByteArray := prog_11_method_128_code
def yX9_areMatched : MethodName := ⟨RX9, "areMatched", "(II)Z"⟩
abbrev cX9_areAlike : ByteArray := prog_11_method_129_code
def yX9_areAlike : MethodName := ⟨RX9, "areAlike", "(II)Z"⟩
abbrev cX9_broken : ByteArray := prog_11_method_130_code
def yX9_broken : MethodName := ⟨RX9, "broken", "(I)I"⟩
abbrev cX9_wouldGrant : ByteArray := prog_11_method_131_code
def yX9_wouldGrant : MethodName := ⟨RX9, "wouldGrant", "(II)Z"⟩
abbrev cX9_couldWin : ByteArray := prog_11_method_132_code
def yX9_couldWin : MethodName := ⟨RX9, "couldWin", "(II)I"⟩
abbrev cX9_majority : ByteArray := prog_11_method_133_code
def yX9_majority : MethodName := ⟨RX9, "majority", "(II)I"⟩
abbrev cX9_allHave : ByteArray := prog_11_method_134_code
def yX9_allHave : MethodName := ⟨RX9, "allHave", "()Z"⟩
abbrev cX9_isSo : ByteArray := prog_11_method_135_code
def yX9_isSo : MethodName := ⟨RX9, "isSo", "(II)Z"⟩
abbrev cX9_till : ByteArray := prog_11_method_136_code
def yX9_till : MethodName := ⟨RX9, "till", "(II)I"⟩
abbrev cX9_seed : ByteArray := prog_11_method_137_code
def yX9_seed : MethodName := ⟨RX9, "seed", "(I)Z"⟩
abbrev cX9_keep : ByteArray := prog_11_method_138_code
def yX9_keep : MethodName := ⟨RX9, "keep", "()I"⟩
abbrev cX9_undo : ByteArray := prog_11_method_139_code
def yX9_undo : MethodName := ⟨RX9, "undo", "()Z"⟩
abbrev cX9_greatest : ByteArray := prog_11_method_140_code
def yX9_greatest : MethodName := ⟨RX9, "greatest", "()I"⟩
abbrev cX9_check : ByteArray := prog_11_method_141_code
def yX9_check : MethodName := ⟨RX9, "check", "(I)I"⟩
abbrev cX9_upSet : ByteArray := prog_11_method_142_code
def yX9_upSet : MethodName := ⟨RX9, "upSet", "()I"⟩
abbrev cX9_cutMany : ByteArray := prog_11_method_143_code
def yX9_cutMany : MethodName := ⟨RX9, "cutMany", "()I"⟩
abbrev cX9_count : ByteArray := prog_11_method_144_code
def yX9_count : MethodName := ⟨RX9, "count", "(I)I"⟩
def RJ6 : String := "java/lang/Integer"
abbrev cJ6_bitCount_0f7a4 : ByteArray := prog_12_method_49_code
def yJ6_bitCount_0f7a4 : MethodName := ⟨RJ6, "bitCount", "(I)I"⟩
def RJ9 : String := "java/lang/Math"
abbrev cJ9_max_7cf53 : ByteArray := prog_13_method_65_code
def yJ9_max_7cf53 : MethodName := ⟨RJ9, "max", "(II)I"⟩
abbrev cJ9_min_7cf53 : ByteArray := prog_13_method_69_code
def yJ9_min_7cf53 : MethodName := ⟨RJ9, "min", "(II)I"⟩
def RJ10 : String := "java/lang/System"
def RJ7 : String := "java/util/Arrays"
abbrev cJ7_fill_53178 : ByteArray := prog_15_method_103_code
def yJ7_fill_53178 : MethodName := ⟨RJ7, "fill", "([II)V"⟩
def RL : String := "TermLogLaw"
abbrev cL_law : ByteArray := code
def yL_law : MethodName := ⟨RL, "law", "([I)Z"⟩
