section
/-- a private method of a class that the tables say can be made, by its rows of tables_1 -/
def lw_okq (q : MethodName × Nat) : Prop := (q.1.cls ≠ "java/lang/invoke/MethodHandle" ∧ q.1.cls ≠ "java/lang/invoke/VarHandle") ∧ Cond.instantiable q.1.cls q.2 ∈ tables_1 ∧ Cond.privateMethod q.1 ∈ tables_1 ∧ Cond.instanceMethod q.1 ∈ tables_1
theorem lw_p0 : lw_okq (⟨"EvenBreaks", "layAnew", "()V"⟩, 9) := ⟨⟨by decide +kernel, by decide +kernel⟩, List.mem_of_getElem? (i := 15) (by decide +kernel), List.mem_of_getElem? (i := 241) (by decide +kernel), List.mem_of_getElem? (i := 242) (by decide +kernel)⟩
theorem lw_p1 : lw_okq (⟨"EvenBreaks$Layout", "settle", "(I)V"⟩, 13) := ⟨⟨by decide +kernel, by decide +kernel⟩, List.mem_of_getElem? (i := 141) (by decide +kernel), List.mem_of_getElem? (i := 265) (by decide +kernel), List.mem_of_getElem? (i := 266) (by decide +kernel)⟩
theorem lw_p2 : lw_okq (⟨"EvenBreaks$Layout", "priceOf", "(II)I"⟩, 13) := ⟨⟨by decide +kernel, by decide +kernel⟩, List.mem_of_getElem? (i := 141) (by decide +kernel), List.mem_of_getElem? (i := 274) (by decide +kernel), List.mem_of_getElem? (i := 275) (by decide +kernel)⟩
theorem lw_p3 : lw_okq (⟨"EvenBreaks$Layout", "tightPrice", "(I)I"⟩, 13) := ⟨⟨by decide +kernel, by decide +kernel⟩, List.mem_of_getElem? (i := 141) (by decide +kernel), List.mem_of_getElem? (i := 278) (by decide +kernel), List.mem_of_getElem? (i := 279) (by decide +kernel)⟩
theorem lw_p4 : lw_okq (⟨"EvenBreaks$Layout", "loosePrice", "(I)I"⟩, 13) := ⟨⟨by decide +kernel, by decide +kernel⟩, List.mem_of_getElem? (i := 141) (by decide +kernel), List.mem_of_getElem? (i := 282) (by decide +kernel), List.mem_of_getElem? (i := 283) (by decide +kernel)⟩
theorem lw_p5 : lw_okq (⟨"EvenBreaks$Layout", "layLines", "()V"⟩, 13) := ⟨⟨by decide +kernel, by decide +kernel⟩, List.mem_of_getElem? (i := 141) (by decide +kernel), List.mem_of_getElem? (i := 286) (by decide +kernel), List.mem_of_getElem? (i := 287) (by decide +kernel)⟩
theorem lw_p6 : lw_okq (⟨"EvenBreaks$Layout", "isBegin", "(I)Z"⟩, 13) := ⟨⟨by decide +kernel, by decide +kernel⟩, List.mem_of_getElem? (i := 141) (by decide +kernel), List.mem_of_getElem? (i := 290) (by decide +kernel), List.mem_of_getElem? (i := 291) (by decide +kernel)⟩
theorem lw_p7 : lw_okq (⟨"EvenBreaks$Typed", "faultOf", "(II)I"⟩, 5) := ⟨⟨by decide +kernel, by decide +kernel⟩, List.mem_of_getElem? (i := 61) (by decide +kernel), List.mem_of_getElem? (i := 340) (by decide +kernel), List.mem_of_getElem? (i := 341) (by decide +kernel)⟩
theorem lw_p8 : lw_okq (⟨"EvenBreaks$Typed", "addToWord", "(II)V"⟩, 5) := ⟨⟨by decide +kernel, by decide +kernel⟩, List.mem_of_getElem? (i := 61) (by decide +kernel), List.mem_of_getElem? (i := 344) (by decide +kernel), List.mem_of_getElem? (i := 345) (by decide +kernel)⟩
theorem lw_p9 : lw_okq (⟨"EvenBreaks$Layout", "firstFall", "(III)I"⟩, 13) := ⟨⟨by decide +kernel, by decide +kernel⟩, List.mem_of_getElem? (i := 141) (by decide +kernel), List.mem_of_getElem? (i := 386) (by decide +kernel), List.mem_of_getElem? (i := 387) (by decide +kernel)⟩
theorem lw_p10 : lw_okq (⟨"EvenBreaks$Layout", "hasGapAt", "(II)Z"⟩, 13) := ⟨⟨by decide +kernel, by decide +kernel⟩, List.mem_of_getElem? (i := 141) (by decide +kernel), List.mem_of_getElem? (i := 406) (by decide +kernel), List.mem_of_getElem? (i := 407) (by decide +kernel)⟩
theorem lw_p11 : lw_okq (⟨"EvenBreaks", "surveyed", "()LEvenBreaks$Survey;"⟩, 9) := ⟨⟨by decide +kernel, by decide +kernel⟩, List.mem_of_getElem? (i := 15) (by decide +kernel), List.mem_of_getElem? (i := 410) (by decide +kernel), List.mem_of_getElem? (i := 411) (by decide +kernel)⟩
theorem lw_p12 : lw_okq (⟨"EvenBreaks$Survey", "fits", "(I)Z"⟩, 6) := ⟨⟨by decide +kernel, by decide +kernel⟩, List.mem_of_getElem? (i := 193) (by decide +kernel), List.mem_of_getElem? (i := 424) (by decide +kernel), List.mem_of_getElem? (i := 425) (by decide +kernel)⟩
theorem lw_p13 : lw_okq (⟨"EvenBreaks$Survey", "fittingThatBegin", "(I)I"⟩, 6) := ⟨⟨by decide +kernel, by decide +kernel⟩, List.mem_of_getElem? (i := 193) (by decide +kernel), List.mem_of_getElem? (i := 441) (by decide +kernel), List.mem_of_getElem? (i := 442) (by decide +kernel)⟩
theorem lw_p14 : lw_okq (⟨"EvenBreaks", "grows", "(I)I"⟩, 9) := ⟨⟨by decide +kernel, by decide +kernel⟩, List.mem_of_getElem? (i := 15) (by decide +kernel), List.mem_of_getElem? (i := 468) (by decide +kernel), List.mem_of_getElem? (i := 469) (by decide +kernel)⟩
theorem lw_p15 : lw_okq (⟨"EvenBreaks", "readOneWord", "()I"⟩, 9) := ⟨⟨by decide +kernel, by decide +kernel⟩, List.mem_of_getElem? (i := 15) (by decide +kernel), List.mem_of_getElem? (i := 505) (by decide +kernel), List.mem_of_getElem? (i := 506) (by decide +kernel)⟩
def lw_privs_1 : List (MethodName × Nat) := [(⟨"EvenBreaks", "layAnew", "()V"⟩, 9), (⟨"EvenBreaks$Layout", "settle", "(I)V"⟩, 13), (⟨"EvenBreaks$Layout", "priceOf", "(II)I"⟩, 13), (⟨"EvenBreaks$Layout", "tightPrice", "(I)I"⟩, 13), (⟨"EvenBreaks$Layout", "loosePrice", "(I)I"⟩, 13), (⟨"EvenBreaks$Layout", "layLines", "()V"⟩, 13), (⟨"EvenBreaks$Layout", "isBegin", "(I)Z"⟩, 13), (⟨"EvenBreaks$Typed", "faultOf", "(II)I"⟩, 5), (⟨"EvenBreaks$Typed", "addToWord", "(II)V"⟩, 5), (⟨"EvenBreaks$Layout", "firstFall", "(III)I"⟩, 13), (⟨"EvenBreaks$Layout", "hasGapAt", "(II)Z"⟩, 13), (⟨"EvenBreaks", "surveyed", "()LEvenBreaks$Survey;"⟩, 9), (⟨"EvenBreaks$Survey", "fits", "(I)Z"⟩, 6), (⟨"EvenBreaks$Survey", "fittingThatBegin", "(I)I"⟩, 6), (⟨"EvenBreaks", "grows", "(I)I"⟩, 9), (⟨"EvenBreaks", "readOneWord", "()I"⟩, 9)]
theorem lw_r1 : ∀ q ∈ lw_privs_1, lw_okq q := List.forall_mem_cons.mpr ⟨lw_p0, List.forall_mem_cons.mpr ⟨lw_p1, List.forall_mem_cons.mpr ⟨lw_p2, List.forall_mem_cons.mpr ⟨lw_p3, List.forall_mem_cons.mpr ⟨lw_p4, List.forall_mem_cons.mpr ⟨lw_p5, List.forall_mem_cons.mpr ⟨lw_p6, List.forall_mem_cons.mpr ⟨lw_p7, List.forall_mem_cons.mpr ⟨lw_p8, List.forall_mem_cons.mpr ⟨lw_p9, List.forall_mem_cons.mpr ⟨lw_p10, List.forall_mem_cons.mpr ⟨lw_p11, List.forall_mem_cons.mpr ⟨lw_p12, List.forall_mem_cons.mpr ⟨lw_p13, List.forall_mem_cons.mpr ⟨lw_p14, List.forall_mem_cons.mpr ⟨lw_p15, fun _ h => absurd h List.not_mem_nil⟩⟩⟩⟩⟩⟩⟩⟩⟩⟩⟩⟩⟩⟩⟩⟩
theorem lw_p16 : lw_okq (⟨"EvenBreaks", "driftOnce", "()V"⟩, 9) := ⟨⟨by decide +kernel, by decide +kernel⟩, List.mem_of_getElem? (i := 15) (by decide +kernel), List.mem_of_getElem? (i := 549) (by decide +kernel), List.mem_of_getElem? (i := 550) (by decide +kernel)⟩
theorem lw_p17 : lw_okq (⟨"EvenBreaks$Layout", "leastWithOneMore", "(II)I"⟩, 13) := ⟨⟨by decide +kernel, by decide +kernel⟩, List.mem_of_getElem? (i := 141) (by decide +kernel), List.mem_of_getElem? (i := 596) (by decide +kernel), List.mem_of_getElem? (i := 597) (by decide +kernel)⟩
theorem lw_p18 : lw_okq (⟨"EvenBreaksModel", "readWords", "()I"⟩, 29) := ⟨⟨by decide +kernel, by decide +kernel⟩, List.mem_of_getElem? (i := 648) (by decide +kernel), List.mem_of_getElem? (i := 757) (by decide +kernel), List.mem_of_getElem? (i := 758) (by decide +kernel)⟩
theorem lw_p19 : lw_okq (⟨"EvenBreaksModel", "wrongs", "(II)I"⟩, 29) := ⟨⟨by decide +kernel, by decide +kernel⟩, List.mem_of_getElem? (i := 648) (by decide +kernel), List.mem_of_getElem? (i := 763) (by decide +kernel), List.mem_of_getElem? (i := 764) (by decide +kernel)⟩
theorem lw_p20 : lw_okq (⟨"EvenBreaksModel", "note", "()V"⟩, 29) := ⟨⟨by decide +kernel, by decide +kernel⟩, List.mem_of_getElem? (i := 648) (by decide +kernel), List.mem_of_getElem? (i := 767) (by decide +kernel), List.mem_of_getElem? (i := 768) (by decide +kernel)⟩
theorem lw_p21 : lw_okq (⟨"EvenBreaksModel", "takeWord", "(II)V"⟩, 29) := ⟨⟨by decide +kernel, by decide +kernel⟩, List.mem_of_getElem? (i := 648) (by decide +kernel), List.mem_of_getElem? (i := 771) (by decide +kernel), List.mem_of_getElem? (i := 772) (by decide +kernel)⟩
theorem lw_p22 : lw_okq (⟨"EvenBreaksModel", "clearWord", "(I)V"⟩, 29) := ⟨⟨by decide +kernel, by decide +kernel⟩, List.mem_of_getElem? (i := 648) (by decide +kernel), List.mem_of_getElem? (i := 775) (by decide +kernel), List.mem_of_getElem? (i := 776) (by decide +kernel)⟩
theorem lw_p23 : lw_okq (⟨"EvenBreaksModel", "isWord", "(I)Z"⟩, 29) := ⟨⟨by decide +kernel, by decide +kernel⟩, List.mem_of_getElem? (i := 648) (by decide +kernel), List.mem_of_getElem? (i := 787) (by decide +kernel), List.mem_of_getElem? (i := 788) (by decide +kernel)⟩
theorem lw_p24 : lw_okq (⟨"EvenBreaksModel", "wordWidth", "(I)I"⟩, 29) := ⟨⟨by decide +kernel, by decide +kernel⟩, List.mem_of_getElem? (i := 648) (by decide +kernel), List.mem_of_getElem? (i := 793) (by decide +kernel), List.mem_of_getElem? (i := 794) (by decide +kernel)⟩
theorem lw_p25 : lw_okq (⟨"EvenBreaksModel", "lineOf", "(I)I"⟩, 29) := ⟨⟨by decide +kernel, by decide +kernel⟩, List.mem_of_getElem? (i := 648) (by decide +kernel), List.mem_of_getElem? (i := 800) (by decide +kernel), List.mem_of_getElem? (i := 801) (by decide +kernel)⟩
theorem lw_p26 : lw_okq (⟨"EvenBreaksModel", "layLines", "()V"⟩, 29) := ⟨⟨by decide +kernel, by decide +kernel⟩, List.mem_of_getElem? (i := 648) (by decide +kernel), List.mem_of_getElem? (i := 804) (by decide +kernel), List.mem_of_getElem? (i := 805) (by decide +kernel)⟩
theorem lw_p27 : lw_okq (⟨"EvenBreaksModel", "lay", "()V"⟩, 29) := ⟨⟨by decide +kernel, by decide +kernel⟩, List.mem_of_getElem? (i := 648) (by decide +kernel), List.mem_of_getElem? (i := 808) (by decide +kernel), List.mem_of_getElem? (i := 809) (by decide +kernel)⟩
theorem lw_p28 : lw_okq (⟨"EvenBreaksModel", "measureWords", "()V"⟩, 29) := ⟨⟨by decide +kernel, by decide +kernel⟩, List.mem_of_getElem? (i := 648) (by decide +kernel), List.mem_of_getElem? (i := 812) (by decide +kernel), List.mem_of_getElem? (i := 813) (by decide +kernel)⟩
theorem lw_p29 : lw_okq (⟨"EvenBreaksModel", "layBy", "(I)V"⟩, 29) := ⟨⟨by decide +kernel, by decide +kernel⟩, List.mem_of_getElem? (i := 648) (by decide +kernel), List.mem_of_getElem? (i := 816) (by decide +kernel), List.mem_of_getElem? (i := 817) (by decide +kernel)⟩
theorem lw_p30 : lw_okq (⟨"EvenBreaksModel", "costOf", "(III)I"⟩, 29) := ⟨⟨by decide +kernel, by decide +kernel⟩, List.mem_of_getElem? (i := 648) (by decide +kernel), List.mem_of_getElem? (i := 821) (by decide +kernel), List.mem_of_getElem? (i := 822) (by decide +kernel)⟩
theorem lw_p31 : lw_okq (⟨"EvenBreaksModel", "lineWidth", "(II)I"⟩, 29) := ⟨⟨by decide +kernel, by decide +kernel⟩, List.mem_of_getElem? (i := 648) (by decide +kernel), List.mem_of_getElem? (i := 825) (by decide +kernel), List.mem_of_getElem? (i := 826) (by decide +kernel)⟩
def lw_privs_2 : List (MethodName × Nat) := [(⟨"EvenBreaks", "driftOnce", "()V"⟩, 9), (⟨"EvenBreaks$Layout", "leastWithOneMore", "(II)I"⟩, 13), (⟨"EvenBreaksModel", "readWords", "()I"⟩, 29), (⟨"EvenBreaksModel", "wrongs", "(II)I"⟩, 29), (⟨"EvenBreaksModel", "note", "()V"⟩, 29), (⟨"EvenBreaksModel", "takeWord", "(II)V"⟩, 29), (⟨"EvenBreaksModel", "clearWord", "(I)V"⟩, 29), (⟨"EvenBreaksModel", "isWord", "(I)Z"⟩, 29), (⟨"EvenBreaksModel", "wordWidth", "(I)I"⟩, 29), (⟨"EvenBreaksModel", "lineOf", "(I)I"⟩, 29), (⟨"EvenBreaksModel", "layLines", "()V"⟩, 29), (⟨"EvenBreaksModel", "lay", "()V"⟩, 29), (⟨"EvenBreaksModel", "measureWords", "()V"⟩, 29), (⟨"EvenBreaksModel", "layBy", "(I)V"⟩, 29), (⟨"EvenBreaksModel", "costOf", "(III)I"⟩, 29), (⟨"EvenBreaksModel", "lineWidth", "(II)I"⟩, 29)]
theorem lw_r2 : ∀ q ∈ lw_privs_2, lw_okq q := List.forall_mem_cons.mpr ⟨lw_p16, List.forall_mem_cons.mpr ⟨lw_p17, List.forall_mem_cons.mpr ⟨lw_p18, List.forall_mem_cons.mpr ⟨lw_p19, List.forall_mem_cons.mpr ⟨lw_p20, List.forall_mem_cons.mpr ⟨lw_p21, List.forall_mem_cons.mpr ⟨lw_p22, List.forall_mem_cons.mpr ⟨lw_p23, List.forall_mem_cons.mpr ⟨lw_p24, List.forall_mem_cons.mpr ⟨lw_p25, List.forall_mem_cons.mpr ⟨lw_p26, List.forall_mem_cons.mpr ⟨lw_p27, List.forall_mem_cons.mpr ⟨lw_p28, List.forall_mem_cons.mpr ⟨lw_p29, List.forall_mem_cons.mpr ⟨lw_p30, List.forall_mem_cons.mpr ⟨lw_p31, fun _ h => absurd h List.not_mem_nil⟩⟩⟩⟩⟩⟩⟩⟩⟩⟩⟩⟩⟩⟩⟩⟩
theorem lw_p32 : lw_okq (⟨"EvenBreaksModel", "breakLines", "()V"⟩, 29) := ⟨⟨by decide +kernel, by decide +kernel⟩, List.mem_of_getElem? (i := 648) (by decide +kernel), List.mem_of_getElem? (i := 835) (by decide +kernel), List.mem_of_getElem? (i := 836) (by decide +kernel)⟩
theorem lw_p33 : lw_okq (⟨"EvenBreaksModel", "growsOf", "(I)I"⟩, 29) := ⟨⟨by decide +kernel, by decide +kernel⟩, List.mem_of_getElem? (i := 648) (by decide +kernel), List.mem_of_getElem? (i := 839) (by decide +kernel), List.mem_of_getElem? (i := 840) (by decide +kernel)⟩
theorem lw_p34 : lw_okq (⟨"EvenBreaksModel", "beginSet", "()J"⟩, 29) := ⟨⟨by decide +kernel, by decide +kernel⟩, List.mem_of_getElem? (i := 648) (by decide +kernel), List.mem_of_getElem? (i := 843) (by decide +kernel), List.mem_of_getElem? (i := 844) (by decide +kernel)⟩
theorem lw_p35 : lw_okq (⟨"EvenBreaksModel", "isEnd", "(I)Z"⟩, 29) := ⟨⟨by decide +kernel, by decide +kernel⟩, List.mem_of_getElem? (i := 648) (by decide +kernel), List.mem_of_getElem? (i := 851) (by decide +kernel), List.mem_of_getElem? (i := 852) (by decide +kernel)⟩
theorem lw_p36 : lw_okq (⟨"EvenBreaksModel", "runsAt", "(I)I"⟩, 29) := ⟨⟨by decide +kernel, by decide +kernel⟩, List.mem_of_getElem? (i := 648) (by decide +kernel), List.mem_of_getElem? (i := 856) (by decide +kernel), List.mem_of_getElem? (i := 857) (by decide +kernel)⟩
theorem lw_p37 : lw_okq (⟨"EvenBreaksModel", "ownerBy", "(II)I"⟩, 29) := ⟨⟨by decide +kernel, by decide +kernel⟩, List.mem_of_getElem? (i := 648) (by decide +kernel), List.mem_of_getElem? (i := 860) (by decide +kernel), List.mem_of_getElem? (i := 861) (by decide +kernel)⟩
theorem lw_p38 : lw_okq (⟨"EvenBreaksModel", "readOne", "()I"⟩, 29) := ⟨⟨by decide +kernel, by decide +kernel⟩, List.mem_of_getElem? (i := 648) (by decide +kernel), List.mem_of_getElem? (i := 876) (by decide +kernel), List.mem_of_getElem? (i := 877) (by decide +kernel)⟩
theorem lw_p39 : lw_okq (⟨"EvenBreaksModel", "putIn", "(I)V"⟩, 29) := ⟨⟨by decide +kernel, by decide +kernel⟩, List.mem_of_getElem? (i := 648) (by decide +kernel), List.mem_of_getElem? (i := 885) (by decide +kernel), List.mem_of_getElem? (i := 886) (by decide +kernel)⟩
theorem lw_p40 : lw_okq (⟨"EvenBreaksModel", "moveWord", "(II)V"⟩, 29) := ⟨⟨by decide +kernel, by decide +kernel⟩, List.mem_of_getElem? (i := 648) (by decide +kernel), List.mem_of_getElem? (i := 889) (by decide +kernel), List.mem_of_getElem? (i := 890) (by decide +kernel)⟩
theorem lw_p41 : lw_okq (⟨"EvenBreaksModel", "becomes", "(IIII)I"⟩, 29) := ⟨⟨by decide +kernel, by decide +kernel⟩, List.mem_of_getElem? (i := 648) (by decide +kernel), List.mem_of_getElem? (i := 901) (by decide +kernel), List.mem_of_getElem? (i := 902) (by decide +kernel)⟩
theorem lw_p42 : lw_okq (⟨"EvenBreaksModel", "total", "()I"⟩, 29) := ⟨⟨by decide +kernel, by decide +kernel⟩, List.mem_of_getElem? (i := 648) (by decide +kernel), List.mem_of_getElem? (i := 905) (by decide +kernel), List.mem_of_getElem? (i := 906) (by decide +kernel)⟩
theorem lw_p43 : lw_okq (⟨"EvenBreaksModel", "drawOf", "(I)I"⟩, 29) := ⟨⟨by decide +kernel, by decide +kernel⟩, List.mem_of_getElem? (i := 648) (by decide +kernel), List.mem_of_getElem? (i := 926) (by decide +kernel), List.mem_of_getElem? (i := 927) (by decide +kernel)⟩
theorem lw_p44 : lw_okq (⟨"EvenBreaksModel", "firstOf", "(I)I"⟩, 29) := ⟨⟨by decide +kernel, by decide +kernel⟩, List.mem_of_getElem? (i := 648) (by decide +kernel), List.mem_of_getElem? (i := 942) (by decide +kernel), List.mem_of_getElem? (i := 943) (by decide +kernel)⟩
theorem lw_p45 : lw_okq (⟨"EvenBreaksModel", "toldLines", "(I)I"⟩, 29) := ⟨⟨by decide +kernel, by decide +kernel⟩, List.mem_of_getElem? (i := 648) (by decide +kernel), List.mem_of_getElem? (i := 989) (by decide +kernel), List.mem_of_getElem? (i := 990) (by decide +kernel)⟩
theorem lw_p46 : lw_okq (⟨"EvenBreaksModel", "rivers", "()I"⟩, 29) := ⟨⟨by decide +kernel, by decide +kernel⟩, List.mem_of_getElem? (i := 648) (by decide +kernel), List.mem_of_getElem? (i := 993) (by decide +kernel), List.mem_of_getElem? (i := 994) (by decide +kernel)⟩
theorem lw_p47 : lw_okq (⟨"EvenBreaksModel", "toldMeasures", "(I)I"⟩, 29) := ⟨⟨by decide +kernel, by decide +kernel⟩, List.mem_of_getElem? (i := 648) (by decide +kernel), List.mem_of_getElem? (i := 997) (by decide +kernel), List.mem_of_getElem? (i := 998) (by decide +kernel)⟩
def lw_privs_3 : List (MethodName × Nat) := [(⟨"EvenBreaksModel", "breakLines", "()V"⟩, 29), (⟨"EvenBreaksModel", "growsOf", "(I)I"⟩, 29), (⟨"EvenBreaksModel", "beginSet", "()J"⟩, 29), (⟨"EvenBreaksModel", "isEnd", "(I)Z"⟩, 29), (⟨"EvenBreaksModel", "runsAt", "(I)I"⟩, 29), (⟨"EvenBreaksModel", "ownerBy", "(II)I"⟩, 29), (⟨"EvenBreaksModel", "readOne", "()I"⟩, 29), (⟨"EvenBreaksModel", "putIn", "(I)V"⟩, 29), (⟨"EvenBreaksModel", "moveWord", "(II)V"⟩, 29), (⟨"EvenBreaksModel", "becomes", "(IIII)I"⟩, 29), (⟨"EvenBreaksModel", "total", "()I"⟩, 29), (⟨"EvenBreaksModel", "drawOf", "(I)I"⟩, 29), (⟨"EvenBreaksModel", "firstOf", "(I)I"⟩, 29), (⟨"EvenBreaksModel", "toldLines", "(I)I"⟩, 29), (⟨"EvenBreaksModel", "rivers", "()I"⟩, 29), (⟨"EvenBreaksModel", "toldMeasures", "(I)I"⟩, 29)]
theorem lw_r3 : ∀ q ∈ lw_privs_3, lw_okq q := List.forall_mem_cons.mpr ⟨lw_p32, List.forall_mem_cons.mpr ⟨lw_p33, List.forall_mem_cons.mpr ⟨lw_p34, List.forall_mem_cons.mpr ⟨lw_p35, List.forall_mem_cons.mpr ⟨lw_p36, List.forall_mem_cons.mpr ⟨lw_p37, List.forall_mem_cons.mpr ⟨lw_p38, List.forall_mem_cons.mpr ⟨lw_p39, List.forall_mem_cons.mpr ⟨lw_p40, List.forall_mem_cons.mpr ⟨lw_p41, List.forall_mem_cons.mpr ⟨lw_p42, List.forall_mem_cons.mpr ⟨lw_p43, List.forall_mem_cons.mpr ⟨lw_p44, List.forall_mem_cons.mpr ⟨lw_p45, List.forall_mem_cons.mpr ⟨lw_p46, List.forall_mem_cons.mpr ⟨lw_p47, fun _ h => absurd h List.not_mem_nil⟩⟩⟩⟩⟩⟩⟩⟩⟩⟩⟩⟩⟩⟩⟩⟩
theorem lw_p48 : lw_okq (⟨"EvenBreaksModel", "layMeasures", "()V"⟩, 29) := ⟨⟨by decide +kernel, by decide +kernel⟩, List.mem_of_getElem? (i := 648) (by decide +kernel), List.mem_of_getElem? (i := 1001) (by decide +kernel), List.mem_of_getElem? (i := 1002) (by decide +kernel)⟩
theorem lw_p49 : lw_okq (⟨"EvenBreaksModel", "lookOf", "()I"⟩, 29) := ⟨⟨by decide +kernel, by decide +kernel⟩, List.mem_of_getElem? (i := 648) (by decide +kernel), List.mem_of_getElem? (i := 1005) (by decide +kernel), List.mem_of_getElem? (i := 1006) (by decide +kernel)⟩
theorem lw_p50 : lw_okq (⟨"EvenBreaksModel", "wrongEntry", "()I"⟩, 29) := ⟨⟨by decide +kernel, by decide +kernel⟩, List.mem_of_getElem? (i := 648) (by decide +kernel), List.mem_of_getElem? (i := 1009) (by decide +kernel), List.mem_of_getElem? (i := 1010) (by decide +kernel)⟩
def lw_privs_4 : List (MethodName × Nat) := [(⟨"EvenBreaksModel", "layMeasures", "()V"⟩, 29), (⟨"EvenBreaksModel", "lookOf", "()I"⟩, 29), (⟨"EvenBreaksModel", "wrongEntry", "()I"⟩, 29)]
theorem lw_r4 : ∀ q ∈ lw_privs_4, lw_okq q := List.forall_mem_cons.mpr ⟨lw_p48, List.forall_mem_cons.mpr ⟨lw_p49, List.forall_mem_cons.mpr ⟨lw_p50, fun _ h => absurd h List.not_mem_nil⟩⟩⟩
def lw_privs : List (MethodName × Nat) := lw_privs_1 ++ (lw_privs_2 ++ (lw_privs_3 ++ (lw_privs_4)))
def lw_tbl : List Cond := k2_sels lw_privs ++ tables_1
theorem lw_privs_ok : ∀ q ∈ lw_privs, lw_okq q := by
  show ∀ q ∈ lw_privs_1 ++ (lw_privs_2 ++ (lw_privs_3 ++ (lw_privs_4))), lw_okq q
  exact List.forall_mem_append.mpr ⟨lw_r1, List.forall_mem_append.mpr ⟨lw_r2, List.forall_mem_append.mpr ⟨lw_r3, lw_r4⟩⟩⟩
end
section
def RX0 : String := "EvenBreaks$Book"
def TX0 : u_T := fun k => match k with
  | 0 => ("EvenBreaks$Book", "lineOf", "[I", true)
  | 1 => ("EvenBreaks$Book", "beginOf", "[I", true)
  | _ => ("EvenBreaks$Book", "count", "I", false)
def tyX0 : Nat → FieldType := fun k => match k with
  | 0 => .array .int
  | 1 => .array .int
  | _ => .int
theorem nmX0 : ∀ a, a < 3 → ∀ b, b < 3 → a ≠ b → (TX0 a).2.1 ≠ (TX0 b).2.1 := by decide +kernel
theorem tyX0_ok : ∀ k, k < 3 → parseFieldDescriptor (TX0 k).2.2.1 = some (tyX0 k) := by decide +kernel
abbrev cX0_init : ByteArray := prog_2_method_1_code
def yX0_init : MethodName := ⟨RX0, "<init>", "()V"⟩
abbrev cX0_add : ByteArray := prog_2_method_2_code
def yX0_add : MethodName := ⟨RX0, "add", "(II)I"⟩
abbrev cX0_firstWrong : ByteArray := prog_2_method_3_code
def yX0_firstWrong : MethodName := ⟨RX0, "firstWrong", "(LEvenBreaks$Layout;)I"⟩
def RX1 : String := "EvenBreaks$Draws"
def TX1 : u_T := fun k => match k with
  | _ => ("EvenBreaks$Draws", "state", "I", false)
def tyX1 : Nat → FieldType := fun k => match k with
  | _ => .int
theorem nmX1 : ∀ a, a < 1 → ∀ b, b < 1 → a ≠ b → (TX1 a).2.1 ≠ (TX1 b).2.1 := by decide +kernel
theorem tyX1_ok : ∀ k, k < 1 → parseFieldDescriptor (TX1 k).2.2.1 = some (tyX1 k) := by decide +kernel
abbrev cX1_init : ByteArray := prog_3_method_1_code
def yX1_init : MethodName := ⟨RX1, "<init>", "()V"⟩
abbrev cX1_draw : ByteArray := prog_3_method_2_code
def yX1_draw : MethodName := ⟨RX1, "draw", "(I)I"⟩
abbrev cX1_drawWord : ByteArray := prog_3_method_3_code
def yX1_drawWord : MethodName := ⟨RX1, "drawWord", "()J"⟩
def RX2 : String := "EvenBreaks$Image"
def TX2 : u_T := fun k => match k with
  | 0 => ("EvenBreaks$Image", "text", "LEvenBreaks$Text;", true)
  | 1 => ("EvenBreaks$Image", "state", "I", false)
  | _ => ("EvenBreaks$Image", "kept", "Z", false)
def tyX2 : Nat → FieldType := fun k => match k with
  | 0 => .object "EvenBreaks$Text"
  | 1 => .int
  | _ => .boolean
theorem nmX2 : ∀ a, a < 3 → ∀ b, b < 3 → a ≠ b → (TX2 a).2.1 ≠ (TX2 b).2.1 := by decide +kernel
theorem tyX2_ok : ∀ k, k < 3 → parseFieldDescriptor (TX2 k).2.2.1 = some (tyX2 k) := by decide +kernel
abbrev cX2_init : ByteArray := prog_4_method_1_code
def yX2_init : MethodName := ⟨RX2, "<init>", "()V"⟩
def RX3 : String := "EvenBreaks$Layout"
def TX3 : u_T := fun k => match k with
  | 0 => ("EvenBreaks$Layout", "roots", "[I", true)
  | 1 => ("EvenBreaks$Layout", "place", "[I", true)
  | 2 => ("EvenBreaks$Layout", "total", "[I", true)
  | 3 => ("EvenBreaks$Layout", "owner", "[I", true)
  | 4 => ("EvenBreaks$Layout", "lineBegin", "[I", true)
  | 5 => ("EvenBreaks$Layout", "row", "[I", true)
  | 6 => ("EvenBreaks$Layout", "last", "I", false)
  | 7 => ("EvenBreaks$Layout", "measure", "I", false)
  | 8 => ("EvenBreaks$Layout", "law", "I", false)
  | 9 => ("EvenBreaks$Layout", "fee", "I", false)
  | 10 => ("EvenBreaks$Layout", "free", "Z", false)
  | 11 => ("EvenBreaks$Layout", "lines", "I", false)
  | _ => ("EvenBreaks$Layout", "begins", "J", false)
def tyX3 : Nat → FieldType := fun k => match k with
  | 0 => .array .int
  | 1 => .array .int
  | 2 => .array .int
  | 3 => .array .int
  | 4 => .array .int
  | 5 => .array .int
  | 6 => .int
  | 7 => .int
  | 8 => .int
  | 9 => .int
  | 10 => .boolean
  | 11 => .int
  | _ => .long
theorem nmX3 : ∀ a, a < 13 → ∀ b, b < 13 → a ≠ b → (TX3 a).2.1 ≠ (TX3 b).2.1 := by decide +kernel
theorem tyX3_ok : ∀ k, k < 13 → parseFieldDescriptor (TX3 k).2.2.1 = some (tyX3 k) := by decide +kernel
abbrev cX3_init : ByteArray := prog_5_method_1_code
def yX3_init : MethodName := ⟨RX3, "<init>", "([I)V"⟩
abbrev cX3_load : ByteArray := prog_5_method_2_code
def yX3_load : MethodName := ⟨RX3, "load", "(LEvenBreaks$Text;)V"⟩
abbrev cX3_widen : ByteArray := prog_5_method_3_code
def yX3_widen : MethodName := ⟨RX3, "widen", "(II)V"⟩
abbrev cX3_widthOf : ByteArray := prog_5_method_4_code
def yX3_widthOf : MethodName := ⟨RX3, "widthOf", "(II)I"⟩
abbrev cX3_price : ByteArray := prog_5_method_5_code
def yX3_price : MethodName := ⟨RX3, "price", "(II)I"⟩
abbrev cX3_priceOf : ByteArray := prog_5_method_6_code
def yX3_priceOf : MethodName := ⟨RX3, "priceOf", "(II)I"⟩
abbrev cX3_tightPrice : ByteArray := prog_5_method_7_code
def yX3_tightPrice : MethodName := ⟨RX3, "tightPrice", "(I)I"⟩
abbrev cX3_loosePrice : ByteArray := prog_5_method_8_code
def yX3_loosePrice : MethodName := ⟨RX3, "loosePrice", "(I)I"⟩
abbrev cX3_solve : ByteArray := prog_5_method_9_code
def yX3_solve : MethodName := ⟨RX3, "solve", "()V"⟩
abbrev cX3_settle : ByteArray := prog_5_method_10_code
def yX3_settle : MethodName := ⟨RX3, "settle", "(I)V"⟩
abbrev cX3_layLines : ByteArray := prog_5_method_11_code
def yX3_layLines : MethodName := ⟨RX3, "layLines", "()V"⟩
abbrev cX3_isBegin : ByteArray := prog_5_method_12_code
def yX3_isBegin : MethodName := ⟨RX3, "isBegin", "(I)Z"⟩
abbrev cX3_lastTotal : ByteArray := prog_5_method_13_code
def yX3_lastTotal : MethodName := ⟨RX3, "lastTotal", "()I"⟩
abbrev cX3_beginOf : ByteArray := prog_5_method_14_code
def yX3_beginOf : MethodName := ⟨RX3, "beginOf", "(I)I"⟩
abbrev cX3_endOf : ByteArray := prog_5_method_15_code
def yX3_endOf : MethodName := ⟨RX3, "endOf", "(I)I"⟩
abbrev cX3_lineOf : ByteArray := prog_5_method_16_code
def yX3_lineOf : MethodName := ⟨RX3, "lineOf", "(I)I"⟩
abbrev cX3_ownerKnownTo : ByteArray := prog_5_method_17_code
def yX3_ownerKnownTo : MethodName := ⟨RX3, "ownerKnownTo", "(II)I"⟩
abbrev cX3_runsAt : ByteArray := prog_5_method_18_code
def yX3_runsAt : MethodName := ⟨RX3, "runsAt", "(I)I"⟩
abbrev cX3_leastWithLines : ByteArray := prog_5_method_19_code
def yX3_leastWithLines : MethodName := ⟨RX3, "leastWithLines", "(I)I"⟩
abbrev cX3_leastWithOneMore : ByteArray := prog_5_method_20_code
def yX3_leastWithOneMore : MethodName := ⟨RX3, "leastWithOneMore", "(II)I"⟩
abbrev cX3_rivers : ByteArray := prog_5_method_21_code
def yX3_rivers : MethodName := ⟨RX3, "rivers", "()I"⟩
abbrev cX3_hasGapAt : ByteArray := prog_5_method_22_code
def yX3_hasGapAt : MethodName := ⟨RX3, "hasGapAt", "(II)Z"⟩
abbrev cX3_firstCrossed : ByteArray := prog_5_method_23_code
def yX3_firstCrossed : MethodName := ⟨RX3, "firstCrossed", "(I)I"⟩
abbrev cX3_firstFall : ByteArray := prog_5_method_24_code
def yX3_firstFall : MethodName := ⟨RX3, "firstFall", "(III)I"⟩
def RX4 : String := "EvenBreaks$Past"
def TX4 : u_T := fun k => match k with
  | 0 => ("EvenBreaks$Past", "texts", "[LEvenBreaks$Text;", true)
  | 1 => ("EvenBreaks$Past", "next", "I", false)
  | _ => ("EvenBreaks$Past", "count", "I", false)
def tyX4 : Nat → FieldType := fun k => match k with
  | 0 => .array (.object "EvenBreaks$Text")
  | 1 => .int
  | _ => .int
theorem nmX4 : ∀ a, a < 3 → ∀ b, b < 3 → a ≠ b → (TX4 a).2.1 ≠ (TX4 b).2.1 := by decide +kernel
theorem tyX4_ok : ∀ k, k < 3 → parseFieldDescriptor (TX4 k).2.2.1 = some (tyX4 k) := by decide +kernel
abbrev cX4_init : ByteArray := prog_6_method_1_code
def yX4_init : MethodName := ⟨RX4, "<init>", "()V"⟩
abbrev cX4_remember : ByteArray := prog_6_method_2_code
def yX4_remember : MethodName := ⟨RX4, "remember", "(LEvenBreaks$Text;)V"⟩
abbrev cX4_giveBack : ByteArray := prog_6_method_3_code
def yX4_giveBack : MethodName := ⟨RX4, "giveBack", "(ILEvenBreaks$Text;)V"⟩
def RX5 : String := "EvenBreaks$Spelling"
def TX5 : u_T := fun k => match k with
  | _ => ("", "", "", false)
def tyX5 : Nat → FieldType := fun k => match k with
  | _ => .int
theorem nmX5 : ∀ a, a < 0 → ∀ b, b < 0 → a ≠ b → (TX5 a).2.1 ≠ (TX5 b).2.1 := by decide +kernel
theorem tyX5_ok : ∀ k, k < 0 → parseFieldDescriptor (TX5 k).2.2.1 = some (tyX5 k) := by decide +kernel
abbrev cX5_withLetter : ByteArray := prog_7_method_2_code
def yX5_withLetter : MethodName := ⟨RX5, "withLetter", "(JII)J"⟩
abbrev cX5_letterAt : ByteArray := prog_7_method_3_code
def yX5_letterAt : MethodName := ⟨RX5, "letterAt", "(JI)I"⟩
abbrev cX5_lengthOf : ByteArray := prog_7_method_4_code
def yX5_lengthOf : MethodName := ⟨RX5, "lengthOf", "(J)I"⟩
abbrev cX5_widthOf : ByteArray := prog_7_method_5_code
def yX5_widthOf : MethodName := ⟨RX5, "widthOf", "(J)I"⟩
abbrev cX5_letterWidth : ByteArray := prog_7_method_6_code
def yX5_letterWidth : MethodName := ⟨RX5, "letterWidth", "(I)I"⟩
def RX6 : String := "EvenBreaks$Survey"
def TX6 : u_T := fun k => match k with
  | 0 => ("EvenBreaks$Survey", "totalBy", "[I", true)
  | 1 => ("EvenBreaks$Survey", "beginsBy", "[J", true)
  | 2 => ("EvenBreaks$Survey", "isFresh", "Z", false)
  | 3 => ("EvenBreaks$Survey", "seen", "I", false)
  | 4 => ("EvenBreaks$Survey", "seenBegin", "J", false)
  | _ => ("EvenBreaks$Survey", "seenNone", "J", false)
def tyX6 : Nat → FieldType := fun k => match k with
  | 0 => .array .int
  | 1 => .array .long
  | 2 => .boolean
  | 3 => .int
  | 4 => .long
  | _ => .long
theorem nmX6 : ∀ a, a < 6 → ∀ b, b < 6 → a ≠ b → (TX6 a).2.1 ≠ (TX6 b).2.1 := by decide +kernel
theorem tyX6_ok : ∀ k, k < 6 → parseFieldDescriptor (TX6 k).2.2.1 = some (tyX6 k) := by decide +kernel
abbrev cX6_init : ByteArray := prog_8_method_1_code
def yX6_init : MethodName := ⟨RX6, "<init>", "()V"⟩
abbrev cX6_fill : ByteArray := prog_8_method_2_code
def yX6_fill : MethodName := ⟨RX6, "fill", "(LEvenBreaks$Layout;)V"⟩
abbrev cX6_note : ByteArray := prog_8_method_3_code
def yX6_note : MethodName := ⟨RX6, "note", "(IZ)I"⟩
abbrev cX6_forget : ByteArray := prog_8_method_4_code
def yX6_forget : MethodName := ⟨RX6, "forget", "()V"⟩
abbrev cX6_fits : ByteArray := prog_8_method_5_code
def yX6_fits : MethodName := ⟨RX6, "fits", "(I)Z"⟩
abbrev cX6_fitting : ByteArray := prog_8_method_6_code
def yX6_fitting : MethodName := ⟨RX6, "fitting", "()I"⟩
abbrev cX6_leastFitting : ByteArray := prog_8_method_7_code
def yX6_leastFitting : MethodName := ⟨RX6, "leastFitting", "()I"⟩
abbrev cX6_greatestFitting : ByteArray := prog_8_method_8_code
def yX6_greatestFitting : MethodName := ⟨RX6, "greatestFitting", "()I"⟩
abbrev cX6_look : ByteArray := prog_8_method_9_code
def yX6_look : MethodName := ⟨RX6, "look", "(I)I"⟩
abbrev cX6_fittingThatBegin : ByteArray := prog_8_method_10_code
def yX6_fittingThatBegin : MethodName := ⟨RX6, "fittingThatBegin", "(I)I"⟩
abbrev cX6_bestMeasure : ByteArray := prog_8_method_11_code
def yX6_bestMeasure : MethodName := ⟨RX6, "bestMeasure", "(II)I"⟩
def RX7 : String := "EvenBreaks$Text"
def TX7 : u_T := fun k => match k with
  | 0 => ("EvenBreaks$Text", "words", "[J", true)
  | 1 => ("EvenBreaks$Text", "count", "I", false)
  | 2 => ("EvenBreaks$Text", "measure", "I", false)
  | 3 => ("EvenBreaks$Text", "law", "I", false)
  | 4 => ("EvenBreaks$Text", "fee", "I", false)
  | _ => ("EvenBreaks$Text", "free", "Z", false)
def tyX7 : Nat → FieldType := fun k => match k with
  | 0 => .array .long
  | 1 => .int
  | 2 => .int
  | 3 => .int
  | 4 => .int
  | _ => .boolean
theorem nmX7 : ∀ a, a < 6 → ∀ b, b < 6 → a ≠ b → (TX7 a).2.1 ≠ (TX7 b).2.1 := by decide +kernel
theorem tyX7_ok : ∀ k, k < 6 → parseFieldDescriptor (TX7 k).2.2.1 = some (tyX7 k) := by decide +kernel
abbrev cX7_init : ByteArray := prog_9_method_1_code
def yX7_init : MethodName := ⟨RX7, "<init>", "()V"⟩
abbrev cX7_hasWord : ByteArray := prog_9_method_2_code
def yX7_hasWord : MethodName := ⟨RX7, "hasWord", "(I)Z"⟩
abbrev cX7_hasEnd : ByteArray := prog_9_method_3_code
def yX7_hasEnd : MethodName := ⟨RX7, "hasEnd", "(I)Z"⟩
abbrev cX7_become : ByteArray := prog_9_method_4_code
def yX7_become : MethodName := ⟨RX7, "become", "(LEvenBreaks$Text;)V"⟩
abbrev cX7_setWords : ByteArray := prog_9_method_5_code
def yX7_setWords : MethodName := ⟨RX7, "setWords", "([JI)V"⟩
abbrev cX7_putIn : ByteArray := prog_9_method_6_code
def yX7_putIn : MethodName := ⟨RX7, "putIn", "(IJ)V"⟩
abbrev cX7_takeOut : ByteArray := prog_9_method_7_code
def yX7_takeOut : MethodName := ⟨RX7, "takeOut", "(I)V"⟩
def RX8 : String := "EvenBreaks$Typed"
def TX8 : u_T := fun k => match k with
  | 0 => ("EvenBreaks$Typed", "letters", "[I", true)
  | 1 => ("EvenBreaks$Typed", "words", "[J", true)
  | 2 => ("EvenBreaks$Typed", "count", "I", false)
  | 3 => ("EvenBreaks$Typed", "wordCount", "I", false)
  | _ => ("EvenBreaks$Typed", "faultAt", "I", false)
def tyX8 : Nat → FieldType := fun k => match k with
  | 0 => .array .int
  | 1 => .array .long
  | 2 => .int
  | 3 => .int
  | _ => .int
theorem nmX8 : ∀ a, a < 5 → ∀ b, b < 5 → a ≠ b → (TX8 a).2.1 ≠ (TX8 b).2.1 := by decide +kernel
theorem tyX8_ok : ∀ k, k < 5 → parseFieldDescriptor (TX8 k).2.2.1 = some (tyX8 k) := by decide +kernel
abbrev cX8_init : ByteArray := prog_10_method_1_code
def yX8_init : MethodName := ⟨RX8, "<init>", "()V"⟩
abbrev cX8_add : ByteArray := prog_10_method_2_code
def yX8_add : MethodName := ⟨RX8, "add", "(I)I"⟩
abbrev cX8_read : ByteArray := prog_10_method_3_code
def yX8_read : MethodName := ⟨RX8, "read", "()I"⟩
abbrev cX8_faultOf : ByteArray := prog_10_method_4_code
def yX8_faultOf : MethodName := ⟨RX8, "faultOf", "(II)I"⟩
abbrev cX8_addToWord : ByteArray := prog_10_method_5_code
def yX8_addToWord : MethodName := ⟨RX8, "addToWord", "(II)V"⟩
def RX9 : String := "EvenBreaks"
def TX9 : u_T := fun k => match k with
  | 0 => ("EvenBreaks", "text", "LEvenBreaks$Text;", true)
  | 1 => ("EvenBreaks", "typed", "LEvenBreaks$Typed;", true)
  | 2 => ("EvenBreaks", "past", "LEvenBreaks$Past;", true)
  | 3 => ("EvenBreaks", "draws", "LEvenBreaks$Draws;", true)
  | 4 => ("EvenBreaks", "images", "[LEvenBreaks$Image;", true)
  | 5 => ("EvenBreaks", "now", "LEvenBreaks$Layout;", true)
  | 6 => ("EvenBreaks", "trial", "LEvenBreaks$Layout;", true)
  | 7 => ("EvenBreaks", "survey", "LEvenBreaks$Survey;", true)
  | _ => ("EvenBreaks", "book", "LEvenBreaks$Book;", true)
def tyX9 : Nat → FieldType := fun k => match k with
  | 0 => .object "EvenBreaks$Text"
  | 1 => .object "EvenBreaks$Typed"
  | 2 => .object "EvenBreaks$Past"
  | 3 => .object "EvenBreaks$Draws"
  | 4 => .array (.object "EvenBreaks$Image")
  | 5 => .object "EvenBreaks$Layout"
  | 6 => .object "EvenBreaks$Layout"
  | 7 => .object "EvenBreaks$Survey"
  | _ => .object "EvenBreaks$Book"
theorem nmX9 : ∀ a, a < 9 → ∀ b, b < 9 → a ≠ b → (TX9 a).2.1 ≠ (TX9 b).2.1 := by decide +kernel
theorem tyX9_ok : ∀ k, k < 9 → parseFieldDescriptor (TX9 k).2.2.1 = some (tyX9 k) := by decide +kernel
abbrev cX9_init : ByteArray := prog_1_method_1_code
def yX9_init : MethodName := ⟨RX9, "<init>", "()V"⟩
abbrev cX9_feed : ByteArray := prog_1_method_2_code
def yX9_feed : MethodName := ⟨RX9, "feed", "(I)I"⟩
abbrev cX9_type : ByteArray := prog_1_method_3_code
def yX9_type : MethodName := ⟨RX9, "type", "()I"⟩
abbrev cX9_fault : ByteArray := prog_1_method_4_code
def yX9_fault : MethodName := ⟨RX9, "fault", "()I"⟩
abbrev cX9_told : ByteArray := prog_1_method_5_code
def yX9_told : MethodName := ⟨RX9, "told", "(I)I"⟩
abbrev cX9_word : ByteArray := prog_1_method_6_code
def yX9_word : MethodName := ⟨RX9, "word", "(II)I"⟩
abbrev cX9_end : ByteArray := prog_1_method_7_code
def yX9_end : MethodName := ⟨RX9, "end", "(II)I"⟩
abbrev cX9_line : ByteArray := prog_1_method_8_code
def yX9_line : MethodName := ⟨RX9, "line", "(II)I"⟩
abbrev cX9_change : ByteArray := prog_1_method_9_code
def yX9_change : MethodName := ⟨RX9, "change", "(I)I"⟩
abbrev cX9_insert : ByteArray := prog_1_method_10_code
def yX9_insert : MethodName := ⟨RX9, "insert", "(I)I"⟩
abbrev cX9_take : ByteArray := prog_1_method_11_code
def yX9_take : MethodName := ⟨RX9, "take", "(I)I"⟩
abbrev cX9_measure : ByteArray := prog_1_method_12_code
def yX9_measure : MethodName := ⟨RX9, "measure", "(I)I"⟩
abbrev cX9_rule : ByteArray := prog_1_method_13_code
def yX9_rule : MethodName := ⟨RX9, "rule", "(I)I"⟩
abbrev cX9_fee : ByteArray := prog_1_method_14_code
def yX9_fee : MethodName := ⟨RX9, "fee", "(I)I"⟩
abbrev cX9_free : ByteArray := prog_1_method_15_code
def yX9_free : MethodName := ⟨RX9, "free", "(Z)I"⟩
abbrev cX9_drift : ByteArray := prog_1_method_16_code
def yX9_drift : MethodName := ⟨RX9, "drift", "(I)I"⟩
abbrev cX9_undo : ByteArray := prog_1_method_17_code
def yX9_undo : MethodName := ⟨RX9, "undo", "(I)I"⟩
abbrev cX9_cost : ByteArray := prog_1_method_18_code
def yX9_cost : MethodName := ⟨RX9, "cost", "(II)I"⟩
abbrev cX9_first : ByteArray := prog_1_method_19_code
def yX9_first : MethodName := ⟨RX9, "first", "(I)I"⟩
abbrev cX9_known : ByteArray := prog_1_method_20_code
def yX9_known : MethodName := ⟨RX9, "known", "(II)I"⟩
abbrev cX9_with : ByteArray := prog_1_method_21_code
def yX9_with : MethodName := ⟨RX9, "with", "(I)I"⟩
abbrev cX9_best : ByteArray := prog_1_method_22_code
def yX9_best : MethodName := ⟨RX9, "best", "(III)I"⟩
abbrev cX9_see : ByteArray := prog_1_method_23_code
def yX9_see : MethodName := ⟨RX9, "see", "(IZ)I"⟩
abbrev cX9_write : ByteArray := prog_1_method_24_code
def yX9_write : MethodName := ⟨RX9, "write", "(II)I"⟩
abbrev cX9_tear : ByteArray := prog_1_method_25_code
def yX9_tear : MethodName := ⟨RX9, "tear", "()I"⟩
abbrev cX9_seed : ByteArray := prog_1_method_26_code
def yX9_seed : MethodName := ⟨RX9, "seed", "(I)I"⟩
abbrev cX9_keep : ByteArray := prog_1_method_27_code
def yX9_keep : MethodName := ⟨RX9, "keep", "(I)I"⟩
abbrev cX9_goBack : ByteArray := prog_1_method_28_code
def yX9_goBack : MethodName := ⟨RX9, "goBack", "(I)I"⟩
abbrev cX9_layAnew : ByteArray := prog_1_method_29_code
def yX9_layAnew : MethodName := ⟨RX9, "layAnew", "()V"⟩
abbrev cX9_surveyed : ByteArray := prog_1_method_30_code
def yX9_surveyed : MethodName := ⟨RX9, "surveyed", "()LEvenBreaks$Survey;"⟩
abbrev cX9_readOneWord : ByteArray := prog_1_method_31_code
def yX9_readOneWord : MethodName := ⟨RX9, "readOneWord", "()I"⟩
abbrev cX9_driftOnce : ByteArray := prog_1_method_32_code
def yX9_driftOnce : MethodName := ⟨RX9, "driftOnce", "()V"⟩
abbrev cX9_grows : ByteArray := prog_1_method_33_code
def yX9_grows : MethodName := ⟨RX9, "grows", "(I)I"⟩
abbrev cX9_tableOfRoots : ByteArray := prog_1_method_34_code
def yX9_tableOfRoots : MethodName := ⟨RX9, "tableOfRoots", "()[I"⟩
def RX10 : String := "EvenBreaksModel"
def TX10 : u_T := fun k => match k with
  | 0 => ("EvenBreaksModel", "st", "[I", true)
  | 1 => ("EvenBreaksModel", "past", "[I", true)
  | 2 => ("EvenBreaksModel", "undoMany", "I", false)
  | 3 => ("EvenBreaksModel", "seed", "I", false)
  | 4 => ("EvenBreaksModel", "typed", "[I", true)
  | 5 => ("EvenBreaksModel", "typedMany", "I", false)
  | 6 => ("EvenBreaksModel", "wrongAt", "I", false)
  | 7 => ("EvenBreaksModel", "newSizes", "[I", true)
  | 8 => ("EvenBreaksModel", "newLetters", "[I", true)
  | 9 => ("EvenBreaksModel", "newMany", "I", false)
  | 10 => ("EvenBreaksModel", "wide", "[I", true)
  | 11 => ("EvenBreaksModel", "upTo", "[I", true)
  | 12 => ("EvenBreaksModel", "costs", "[I", true)
  | 13 => ("EvenBreaksModel", "totals", "[I", true)
  | 14 => ("EvenBreaksModel", "owners", "[I", true)
  | 15 => ("EvenBreaksModel", "begins", "[I", true)
  | 16 => ("EvenBreaksModel", "linesMany", "I", false)
  | 17 => ("EvenBreaksModel", "with", "[I", true)
  | 18 => ("EvenBreaksModel", "seen", "[I", true)
  | 19 => ("EvenBreaksModel", "seenMany", "I", false)
  | 20 => ("EvenBreaksModel", "book", "[I", true)
  | 21 => ("EvenBreaksModel", "bookMany", "I", false)
  | 22 => ("EvenBreaksModel", "beginsBy", "[J", true)
  | 23 => ("EvenBreaksModel", "isBy", "[Z", true)
  | 24 => ("EvenBreaksModel", "byMany", "I", false)
  | 25 => ("EvenBreaksModel", "byLeast", "I", false)
  | 26 => ("EvenBreaksModel", "byGreatest", "I", false)
  | 27 => ("EvenBreaksModel", "images", "[I", true)
  | _ => ("EvenBreaksModel", "isKept", "[Z", true)
def tyX10 : Nat → FieldType := fun k => match k with
  | 0 => .array .int
  | 1 => .array .int
  | 2 => .int
  | 3 => .int
  | 4 => .array .int
  | 5 => .int
  | 6 => .int
  | 7 => .array .int
  | 8 => .array .int
  | 9 => .int
  | 10 => .array .int
  | 11 => .array .int
  | 12 => .array .int
  | 13 => .array .int
  | 14 => .array .int
  | 15 => .array .int
  | 16 => .int
  | 17 => .array .int
  | 18 => .array .int
  | 19 => .int
  | 20 => .array .int
  | 21 => .int
  | 22 => .array .long
  | 23 => .array .boolean
  | 24 => .int
  | 25 => .int
  | 26 => .int
  | 27 => .array .int
  | _ => .array .boolean
theorem nmX10 : ∀ a, a < 29 → ∀ b, b < 29 → a ≠ b → (TX10 a).2.1 ≠ (TX10 b).2.1 := by decide +kernel
theorem tyX10_ok : ∀ k, k < 29 → parseFieldDescriptor (TX10 k).2.2.1 = some (tyX10 k) := by decide +kernel
abbrev cX10_init : ByteArray := prog_12_method_1_code
def yX10_init : MethodName := ⟨RX10, "<init>", "()V"⟩
abbrev cX10_in : ByteArray := prog_12_method_2_code
def yX10_in : MethodName := ⟨RX10, "in", "(JJJ)Z"⟩
abbrev cX10_isWord : ByteArray := prog_12_method_3_code
def yX10_isWord : MethodName := ⟨RX10, "isWord", "(I)Z"⟩
abbrev cX10_isEnd : ByteArray := prog_12_method_4_code
def yX10_isEnd : MethodName := ⟨RX10, "isEnd", "(I)Z"⟩
abbrev cX10_feed : ByteArray := prog_12_method_5_code
def yX10_feed : MethodName := ⟨RX10, "feed", "(I)I"⟩
abbrev cX10_wrongs : ByteArray := prog_12_method_6_code
def yX10_wrongs : MethodName := ⟨RX10, "wrongs", "(II)I"⟩
abbrev cX10_readWords : ByteArray := prog_12_method_7_code
def yX10_readWords : MethodName := ⟨RX10, "readWords", "()I"⟩
abbrev cX10_takeWord : ByteArray := prog_12_method_8_code
def yX10_takeWord : MethodName := ⟨RX10, "takeWord", "(II)V"⟩
abbrev cX10_moveWord : ByteArray := prog_12_method_9_code
def yX10_moveWord : MethodName := ⟨RX10, "moveWord", "(II)V"⟩
abbrev cX10_clearWord : ByteArray := prog_12_method_10_code
def yX10_clearWord : MethodName := ⟨RX10, "clearWord", "(I)V"⟩
abbrev cX10_note : ByteArray := prog_12_method_11_code
def yX10_note : MethodName := ⟨RX10, "note", "()V"⟩
abbrev cX10_type : ByteArray := prog_12_method_12_code
def yX10_type : MethodName := ⟨RX10, "type", "()I"⟩
abbrev cX10_fault : ByteArray := prog_12_method_13_code
def yX10_fault : MethodName := ⟨RX10, "fault", "()I"⟩
abbrev cX10_widthOf : ByteArray := prog_12_method_14_code
def yX10_widthOf : MethodName := ⟨RX10, "widthOf", "(I)I"⟩
abbrev cX10_wordWidth : ByteArray := prog_12_method_15_code
def yX10_wordWidth : MethodName := ⟨RX10, "wordWidth", "(I)I"⟩
abbrev cX10_root : ByteArray := prog_12_method_16_code
def yX10_root : MethodName := ⟨RX10, "root", "(I)I"⟩
abbrev cX10_costBy : ByteArray := prog_12_method_17_code
def yX10_costBy : MethodName := ⟨RX10, "costBy", "(II)I"⟩
abbrev cX10_lineWidth : ByteArray := prog_12_method_18_code
def yX10_lineWidth : MethodName := ⟨RX10, "lineWidth", "(II)I"⟩
abbrev cX10_costOf : ByteArray := prog_12_method_19_code
def yX10_costOf : MethodName := ⟨RX10, "costOf", "(III)I"⟩
abbrev cX10_measureWords : ByteArray := prog_12_method_20_code
def yX10_measureWords : MethodName := ⟨RX10, "measureWords", "()V"⟩
abbrev cX10_layBy : ByteArray := prog_12_method_21_code
def yX10_layBy : MethodName := ⟨RX10, "layBy", "(I)V"⟩
abbrev cX10_lay : ByteArray := prog_12_method_22_code
def yX10_lay : MethodName := ⟨RX10, "lay", "()V"⟩
abbrev cX10_total : ByteArray := prog_12_method_23_code
def yX10_total : MethodName := ⟨RX10, "total", "()I"⟩
abbrev cX10_breakLines : ByteArray := prog_12_method_24_code
def yX10_breakLines : MethodName := ⟨RX10, "breakLines", "()V"⟩
abbrev cX10_layLines : ByteArray := prog_12_method_25_code
def yX10_layLines : MethodName := ⟨RX10, "layLines", "()V"⟩
abbrev cX10_beginSet : ByteArray := prog_12_method_26_code
def yX10_beginSet : MethodName := ⟨RX10, "beginSet", "()J"⟩
abbrev cX10_lineOf : ByteArray := prog_12_method_27_code
def yX10_lineOf : MethodName := ⟨RX10, "lineOf", "(I)I"⟩
abbrev cX10_growsOf : ByteArray := prog_12_method_28_code
def yX10_growsOf : MethodName := ⟨RX10, "growsOf", "(I)I"⟩
abbrev cX10_word : ByteArray := prog_12_method_29_code
def yX10_word : MethodName := ⟨RX10, "word", "(II)I"⟩
abbrev cX10_ownerBy : ByteArray := prog_12_method_30_code
def yX10_ownerBy : MethodName := ⟨RX10, "ownerBy", "(II)I"⟩
abbrev cX10_runsAt : ByteArray := prog_12_method_31_code
def yX10_runsAt : MethodName := ⟨RX10, "runsAt", "(I)I"⟩
abbrev cX10_end : ByteArray := prog_12_method_32_code
def yX10_end : MethodName := ⟨RX10, "end", "(II)I"⟩
abbrev cX10_line : ByteArray := prog_12_method_33_code
def yX10_line : MethodName := ⟨RX10, "line", "(II)I"⟩
abbrev cX10_cost : ByteArray := prog_12_method_34_code
def yX10_cost : MethodName := ⟨RX10, "cost", "(II)I"⟩
abbrev cX10_readOne : ByteArray := prog_12_method_35_code
def yX10_readOne : MethodName := ⟨RX10, "readOne", "()I"⟩
abbrev cX10_change : ByteArray := prog_12_method_36_code
def yX10_change : MethodName := ⟨RX10, "change", "(I)I"⟩
abbrev cX10_putIn : ByteArray := prog_12_method_37_code
def yX10_putIn : MethodName := ⟨RX10, "putIn", "(I)V"⟩
abbrev cX10_insert : ByteArray := prog_12_method_38_code
def yX10_insert : MethodName := ⟨RX10, "insert", "(I)I"⟩
abbrev cX10_take : ByteArray := prog_12_method_39_code
def yX10_take : MethodName := ⟨RX10, "take", "(I)I"⟩
abbrev cX10_becomes : ByteArray := prog_12_method_40_code
def yX10_becomes : MethodName := ⟨RX10, "becomes", "(IIII)I"⟩
abbrev cX10_measure : ByteArray := prog_12_method_41_code
def yX10_measure : MethodName := ⟨RX10, "measure", "(I)I"⟩
abbrev cX10_rule : ByteArray := prog_12_method_42_code
def yX10_rule : MethodName := ⟨RX10, "rule", "(I)I"⟩
abbrev cX10_fee : ByteArray := prog_12_method_43_code
def yX10_fee : MethodName := ⟨RX10, "fee", "(I)I"⟩
abbrev cX10_free : ByteArray := prog_12_method_44_code
def yX10_free : MethodName := ⟨RX10, "free", "(Z)I"⟩
abbrev cX10_drawOf : ByteArray := prog_12_method_45_code
def yX10_drawOf : MethodName := ⟨RX10, "drawOf", "(I)I"⟩
abbrev cX10_drift : ByteArray := prog_12_method_46_code
def yX10_drift : MethodName := ⟨RX10, "drift", "(I)I"⟩
abbrev cX10_undo : ByteArray := prog_12_method_47_code
def yX10_undo : MethodName := ⟨RX10, "undo", "(I)I"⟩
abbrev cX10_firstOf : ByteArray := prog_12_method_48_code
def yX10_firstOf : MethodName := ⟨RX10, "firstOf", "(I)I"⟩
abbrev cX10_first : ByteArray := prog_12_method_49_code
def yX10_first : MethodName := ⟨RX10, "first", "(I)I"⟩
abbrev cX10_known : ByteArray := prog_12_method_50_code
def yX10_known : MethodName := ⟨RX10, "known", "(II)I"⟩
abbrev cX10_with : ByteArray := prog_12_method_51_code
def yX10_with : MethodName := ⟨RX10, "with", "(I)I"⟩
abbrev cX10_best : ByteArray := prog_12_method_52_code
def yX10_best : MethodName := ⟨RX10, "best", "(III)I"⟩
abbrev cX10_rivers : ByteArray := prog_12_method_53_code
def yX10_rivers : MethodName := ⟨RX10, "rivers", "()I"⟩
abbrev cX10_layMeasures : ByteArray := prog_12_method_54_code
def yX10_layMeasures : MethodName := ⟨RX10, "layMeasures", "()V"⟩
abbrev cX10_lookOf : ByteArray := prog_12_method_55_code
def yX10_lookOf : MethodName := ⟨RX10, "lookOf", "()I"⟩
abbrev cX10_see : ByteArray := prog_12_method_56_code
def yX10_see : MethodName := ⟨RX10, "see", "(IZ)I"⟩
abbrev cX10_write : ByteArray := prog_12_method_57_code
def yX10_write : MethodName := ⟨RX10, "write", "(II)I"⟩
abbrev cX10_wrongEntry : ByteArray := prog_12_method_58_code
def yX10_wrongEntry : MethodName := ⟨RX10, "wrongEntry", "()I"⟩
abbrev cX10_tear : ByteArray := prog_12_method_59_code
def yX10_tear : MethodName := ⟨RX10, "tear", "()I"⟩
abbrev cX10_seed : ByteArray := prog_12_method_60_code
def yX10_seed : MethodName := ⟨RX10, "seed", "(I)I"⟩
abbrev cX10_keep : ByteArray := prog_12_method_61_code
def yX10_keep : MethodName := ⟨RX10, "keep", "(I)I"⟩
abbrev cX10_goBack : ByteArray := prog_12_method_62_code
def yX10_goBack : MethodName := ⟨RX10, "goBack", "(I)I"⟩
abbrev cX10_toldLines : ByteArray := prog_12_method_63_code
def yX10_toldLines : MethodName := ⟨RX10, "toldLines", "(I)I"⟩
abbrev cX10_toldMeasures : ByteArray := prog_12_method_64_code
def yX10_toldMeasures : MethodName := ⟨RX10, "toldMeasures", "(I)I"⟩
abbrev cX10_told : ByteArray := prog_12_method_65_code
def yX10_told : MethodName := ⟨RX10, "told", "(I)I"⟩
def RJ9 : String := "java/lang/Math"
def RJ10 : String := "java/lang/System"
def RL : String := "EvenBreaksLaw"
abbrev cL_law : ByteArray := code
def yL_law : MethodName := ⟨RL, "law", "([I)Z"⟩
abbrev vwCl : List vw_C := [(RX0, TX0, 3), (RX1, TX1, 1), (RX2, TX2, 3), (RX3, TX3, 13), (RX4, TX4, 3), (RX6, TX6, 6), (RX7, TX7, 6), (RX8, TX8, 5), (RX9, TX9, 9), (RX10, TX10, 29)]
abbrev eb_M : Type := (MethodName × ByteArray × Nat × Option FieldType) × (Nat × Nat × Nat × Nat)
def yJ_max : MethodName := ⟨"java/lang/Math", "max", "(II)I"⟩
abbrev cJ_max : ByteArray := prog_13_method_65_code
abbrev mJ_max : eb_M := ((yJ_max, cJ_max, 2, (Option.some Jvm.ClassFile.FieldType.int)), (99, 0, 0, 0))
def yJ_min : MethodName := ⟨"java/lang/Math", "min", "(II)I"⟩
abbrev cJ_min : ByteArray := prog_13_method_69_code
abbrev mJ_min : eb_M := ((yJ_min, cJ_min, 2, (Option.some Jvm.ClassFile.FieldType.int)), (99, 0, 0, 0))
abbrev mX0_add : eb_M := ((yX0_add, cX0_add, 3, (Option.some Jvm.ClassFile.FieldType.int)), (0, 0, 0, 0))
abbrev mX0_firstWrong : eb_M := ((yX0_firstWrong, cX0_firstWrong, 3, (Option.some Jvm.ClassFile.FieldType.int)), (0, 1, 0, 0))
abbrev mX0_init : eb_M := ((yX0_init, cX0_init, 1, (Option.none : Option Jvm.ClassFile.FieldType)), (0, 1, 2, 40))
abbrev mX10_becomes : eb_M := ((yX10_becomes, cX10_becomes, 5, (Option.some Jvm.ClassFile.FieldType.int)), (9, 6, 0, 0))
abbrev mX10_beginSet : eb_M := ((yX10_beginSet, cX10_beginSet, 4, (Option.some Jvm.ClassFile.FieldType.long)), (9, 0, 0, 0))
abbrev mX10_best : eb_M := ((yX10_best, cX10_best, 8, (Option.some Jvm.ClassFile.FieldType.int)), (9, 4, 0, 0))
abbrev mX10_breakLines : eb_M := ((yX10_breakLines, cX10_breakLines, 4, (Option.none : Option Jvm.ClassFile.FieldType)), (9, 0, 0, 0))
abbrev mX10_change : eb_M := ((yX10_change, cX10_change, 3, (Option.some Jvm.ClassFile.FieldType.int)), (9, 3, 0, 0))
abbrev mX10_clearWord : eb_M := ((yX10_clearWord, cX10_clearWord, 3, (Option.none : Option Jvm.ClassFile.FieldType)), (9, 0, 0, 0))
abbrev mX10_cost : eb_M := ((yX10_cost, cX10_cost, 3, (Option.some Jvm.ClassFile.FieldType.int)), (9, 5, 0, 0))
abbrev mX10_costBy : eb_M := ((yX10_costBy, cX10_costBy, 3, (Option.some Jvm.ClassFile.FieldType.int)), (9, 1, 0, 0))
abbrev mX10_costOf : eb_M := ((yX10_costOf, cX10_costOf, 5, (Option.some Jvm.ClassFile.FieldType.int)), (9, 2, 0, 0))
abbrev mX10_drawOf : eb_M := ((yX10_drawOf, cX10_drawOf, 2, (Option.some Jvm.ClassFile.FieldType.int)), (9, 0, 0, 0))
abbrev mX10_drift : eb_M := ((yX10_drift, cX10_drift, 4, (Option.some Jvm.ClassFile.FieldType.int)), (9, 2, 0, 0))
abbrev mX10_end : eb_M := ((yX10_end, cX10_end, 3, (Option.some Jvm.ClassFile.FieldType.int)), (9, 6, 0, 0))
abbrev mX10_fault : eb_M := ((yX10_fault, cX10_fault, 1, (Option.some Jvm.ClassFile.FieldType.int)), (9, 0, 0, 0))
abbrev mX10_fee : eb_M := ((yX10_fee, cX10_fee, 2, (Option.some Jvm.ClassFile.FieldType.int)), (9, 7, 0, 0))
abbrev mX10_feed : eb_M := ((yX10_feed, cX10_feed, 2, (Option.some Jvm.ClassFile.FieldType.int)), (9, 1, 0, 0))
abbrev mX10_first : eb_M := ((yX10_first, cX10_first, 2, (Option.some Jvm.ClassFile.FieldType.int)), (9, 6, 0, 0))
abbrev mX10_firstOf : eb_M := ((yX10_firstOf, cX10_firstOf, 9, (Option.some Jvm.ClassFile.FieldType.int)), (9, 5, 0, 0))
abbrev mX10_free : eb_M := ((yX10_free, cX10_free, 2, (Option.some Jvm.ClassFile.FieldType.int)), (9, 7, 0, 0))
abbrev mX10_goBack : eb_M := ((yX10_goBack, cX10_goBack, 3, (Option.some Jvm.ClassFile.FieldType.int)), (9, 1, 0, 0))
abbrev mX10_growsOf : eb_M := ((yX10_growsOf, cX10_growsOf, 6, (Option.some Jvm.ClassFile.FieldType.int)), (9, 6, 0, 0))
abbrev mX10_in : eb_M := ((yX10_in, cX10_in, 6, (Option.some Jvm.ClassFile.FieldType.boolean)), (9, 0, 0, 0))
abbrev mX10_init : eb_M := ((yX10_init, cX10_init, 1, (Option.none : Option Jvm.ClassFile.FieldType)), (9, 1, 60, 20000))
abbrev mX10_insert : eb_M := ((yX10_insert, cX10_insert, 3, (Option.some Jvm.ClassFile.FieldType.int)), (9, 3, 0, 0))
abbrev mX10_isEnd : eb_M := ((yX10_isEnd, cX10_isEnd, 2, (Option.some Jvm.ClassFile.FieldType.boolean)), (9, 1, 0, 0))
abbrev mX10_isWord : eb_M := ((yX10_isWord, cX10_isWord, 2, (Option.some Jvm.ClassFile.FieldType.boolean)), (9, 1, 0, 0))
abbrev mX10_keep : eb_M := ((yX10_keep, cX10_keep, 3, (Option.some Jvm.ClassFile.FieldType.int)), (9, 1, 0, 0))
abbrev mX10_known : eb_M := ((yX10_known, cX10_known, 3, (Option.some Jvm.ClassFile.FieldType.int)), (9, 5, 0, 0))
abbrev mX10_lay : eb_M := ((yX10_lay, cX10_lay, 1, (Option.none : Option Jvm.ClassFile.FieldType)), (9, 4, 0, 0))
abbrev mX10_layBy : eb_M := ((yX10_layBy, cX10_layBy, 6, (Option.none : Option Jvm.ClassFile.FieldType)), (9, 3, 0, 0))
abbrev mX10_layLines : eb_M := ((yX10_layLines, cX10_layLines, 1, (Option.none : Option Jvm.ClassFile.FieldType)), (9, 5, 0, 0))
abbrev mX10_layMeasures : eb_M := ((yX10_layMeasures, cX10_layMeasures, 4, (Option.none : Option Jvm.ClassFile.FieldType)), (9, 4, 0, 0))
abbrev mX10_line : eb_M := ((yX10_line, cX10_line, 3, (Option.some Jvm.ClassFile.FieldType.int)), (9, 6, 0, 0))
abbrev mX10_lineOf : eb_M := ((yX10_lineOf, cX10_lineOf, 3, (Option.some Jvm.ClassFile.FieldType.int)), (9, 6, 0, 0))
abbrev mX10_lineWidth : eb_M := ((yX10_lineWidth, cX10_lineWidth, 3, (Option.some Jvm.ClassFile.FieldType.int)), (9, 0, 0, 0))
abbrev mX10_lookOf : eb_M := ((yX10_lookOf, cX10_lookOf, 6, (Option.some Jvm.ClassFile.FieldType.int)), (9, 5, 0, 0))
abbrev mX10_measure : eb_M := ((yX10_measure, cX10_measure, 2, (Option.some Jvm.ClassFile.FieldType.int)), (9, 7, 0, 0))
abbrev mX10_measureWords : eb_M := ((yX10_measureWords, cX10_measureWords, 2, (Option.none : Option Jvm.ClassFile.FieldType)), (9, 2, 0, 0))
abbrev mX10_moveWord : eb_M := ((yX10_moveWord, cX10_moveWord, 4, (Option.none : Option Jvm.ClassFile.FieldType)), (9, 0, 0, 0))
abbrev mX10_note : eb_M := ((yX10_note, cX10_note, 2, (Option.none : Option Jvm.ClassFile.FieldType)), (9, 0, 0, 0))
abbrev mX10_ownerBy : eb_M := ((yX10_ownerBy, cX10_ownerBy, 7, (Option.some Jvm.ClassFile.FieldType.int)), (9, 0, 0, 0))
abbrev mX10_putIn : eb_M := ((yX10_putIn, cX10_putIn, 3, (Option.none : Option Jvm.ClassFile.FieldType)), (9, 1, 0, 0))
abbrev mX10_readOne : eb_M := ((yX10_readOne, cX10_readOne, 2, (Option.some Jvm.ClassFile.FieldType.int)), (9, 2, 0, 0))
abbrev mX10_readWords : eb_M := ((yX10_readWords, cX10_readWords, 5, (Option.some Jvm.ClassFile.FieldType.int)), (9, 1, 0, 0))
abbrev mX10_rivers : eb_M := ((yX10_rivers, cX10_rivers, 5, (Option.some Jvm.ClassFile.FieldType.int)), (9, 6, 0, 0))
abbrev mX10_root : eb_M := ((yX10_root, cX10_root, 3, (Option.some Jvm.ClassFile.FieldType.int)), (9, 0, 0, 0))
abbrev mX10_rule : eb_M := ((yX10_rule, cX10_rule, 2, (Option.some Jvm.ClassFile.FieldType.int)), (9, 7, 0, 0))
abbrev mX10_runsAt : eb_M := ((yX10_runsAt, cX10_runsAt, 6, (Option.some Jvm.ClassFile.FieldType.int)), (9, 5, 0, 0))
abbrev mX10_see : eb_M := ((yX10_see, cX10_see, 3, (Option.some Jvm.ClassFile.FieldType.int)), (9, 2, 0, 0))
abbrev mX10_seed : eb_M := ((yX10_seed, cX10_seed, 3, (Option.some Jvm.ClassFile.FieldType.int)), (9, 0, 0, 0))
abbrev mX10_take : eb_M := ((yX10_take, cX10_take, 4, (Option.some Jvm.ClassFile.FieldType.int)), (9, 2, 0, 0))
abbrev mX10_takeWord : eb_M := ((yX10_takeWord, cX10_takeWord, 4, (Option.none : Option Jvm.ClassFile.FieldType)), (9, 0, 0, 0))
abbrev mX10_tear : eb_M := ((yX10_tear, cX10_tear, 2, (Option.some Jvm.ClassFile.FieldType.int)), (9, 0, 0, 0))
abbrev mX10_told : eb_M := ((yX10_told, cX10_told, 2, (Option.some Jvm.ClassFile.FieldType.int)), (9, 7, 0, 0))
abbrev mX10_toldLines : eb_M := ((yX10_toldLines, cX10_toldLines, 2, (Option.some Jvm.ClassFile.FieldType.int)), (9, 6, 0, 0))
abbrev mX10_toldMeasures : eb_M := ((yX10_toldMeasures, cX10_toldMeasures, 2, (Option.some Jvm.ClassFile.FieldType.int)), (9, 5, 0, 0))
abbrev mX10_total : eb_M := ((yX10_total, cX10_total, 1, (Option.some Jvm.ClassFile.FieldType.int)), (9, 5, 0, 0))
abbrev mX10_type : eb_M := ((yX10_type, cX10_type, 3, (Option.some Jvm.ClassFile.FieldType.int)), (9, 2, 0, 0))
abbrev mX10_undo : eb_M := ((yX10_undo, cX10_undo, 3, (Option.some Jvm.ClassFile.FieldType.int)), (9, 1, 0, 0))
abbrev mX10_widthOf : eb_M := ((yX10_widthOf, cX10_widthOf, 1, (Option.some Jvm.ClassFile.FieldType.int)), (9, 0, 0, 0))
abbrev mX10_with : eb_M := ((yX10_with, cX10_with, 8, (Option.some Jvm.ClassFile.FieldType.int)), (9, 5, 0, 0))
abbrev mX10_word : eb_M := ((yX10_word, cX10_word, 3, (Option.some Jvm.ClassFile.FieldType.int)), (9, 7, 0, 0))
abbrev mX10_wordWidth : eb_M := ((yX10_wordWidth, cX10_wordWidth, 4, (Option.some Jvm.ClassFile.FieldType.int)), (9, 1, 0, 0))
abbrev mX10_write : eb_M := ((yX10_write, cX10_write, 3, (Option.some Jvm.ClassFile.FieldType.int)), (9, 2, 0, 0))
abbrev mX10_wrongEntry : eb_M := ((yX10_wrongEntry, cX10_wrongEntry, 4, (Option.some Jvm.ClassFile.FieldType.int)), (9, 6, 0, 0))
abbrev mX10_wrongs : eb_M := ((yX10_wrongs, cX10_wrongs, 3, (Option.some Jvm.ClassFile.FieldType.int)), (9, 0, 0, 0))
abbrev mX1_draw : eb_M := ((yX1_draw, cX1_draw, 2, (Option.some Jvm.ClassFile.FieldType.int)), (1, 0, 0, 0))
abbrev mX1_drawWord : eb_M := ((yX1_drawWord, cX1_drawWord, 5, (Option.some Jvm.ClassFile.FieldType.long)), (1, 1, 0, 0))
abbrev mX1_init : eb_M := ((yX1_init, cX1_init, 1, (Option.none : Option Jvm.ClassFile.FieldType)), (1, 1, 0, 0))
abbrev mX2_init : eb_M := ((yX2_init, cX2_init, 1, (Option.none : Option Jvm.ClassFile.FieldType)), (2, 2, 2, 46))
abbrev mX3_beginOf : eb_M := ((yX3_beginOf, cX3_beginOf, 2, (Option.some Jvm.ClassFile.FieldType.int)), (3, 0, 0, 0))
abbrev mX3_endOf : eb_M := ((yX3_endOf, cX3_endOf, 2, (Option.some Jvm.ClassFile.FieldType.int)), (3, 0, 0, 0))
abbrev mX3_firstCrossed : eb_M := ((yX3_firstCrossed, cX3_firstCrossed, 5, (Option.some Jvm.ClassFile.FieldType.int)), (3, 4, 0, 0))
abbrev mX3_firstFall : eb_M := ((yX3_firstFall, cX3_firstFall, 7, (Option.some Jvm.ClassFile.FieldType.int)), (3, 3, 0, 0))
abbrev mX3_hasGapAt : eb_M := ((yX3_hasGapAt, cX3_hasGapAt, 5, (Option.some Jvm.ClassFile.FieldType.boolean)), (3, 1, 0, 0))
abbrev mX3_init : eb_M := ((yX3_init, cX3_init, 2, (Option.none : Option Jvm.ClassFile.FieldType)), (3, 1, 5, 205))
abbrev mX3_isBegin : eb_M := ((yX3_isBegin, cX3_isBegin, 2, (Option.some Jvm.ClassFile.FieldType.boolean)), (3, 0, 0, 0))
abbrev mX3_lastTotal : eb_M := ((yX3_lastTotal, cX3_lastTotal, 1, (Option.some Jvm.ClassFile.FieldType.int)), (3, 0, 0, 0))
abbrev mX3_layLines : eb_M := ((yX3_layLines, cX3_layLines, 3, (Option.none : Option Jvm.ClassFile.FieldType)), (3, 1, 0, 0))
abbrev mX3_leastWithLines : eb_M := ((yX3_leastWithLines, cX3_leastWithLines, 4, (Option.some Jvm.ClassFile.FieldType.int)), (3, 4, 0, 0))
abbrev mX3_leastWithOneMore : eb_M := ((yX3_leastWithOneMore, cX3_leastWithOneMore, 6, (Option.some Jvm.ClassFile.FieldType.int)), (3, 3, 0, 0))
abbrev mX3_lineOf : eb_M := ((yX3_lineOf, cX3_lineOf, 3, (Option.some Jvm.ClassFile.FieldType.int)), (3, 0, 0, 0))
abbrev mX3_load : eb_M := ((yX3_load, cX3_load, 3, (Option.none : Option Jvm.ClassFile.FieldType)), (3, 3, 0, 0))
abbrev mX3_loosePrice : eb_M := ((yX3_loosePrice, cX3_loosePrice, 2, (Option.some Jvm.ClassFile.FieldType.int)), (3, 0, 0, 0))
abbrev mX3_ownerKnownTo : eb_M := ((yX3_ownerKnownTo, cX3_ownerKnownTo, 7, (Option.some Jvm.ClassFile.FieldType.int)), (3, 3, 0, 0))
abbrev mX3_price : eb_M := ((yX3_price, cX3_price, 3, (Option.some Jvm.ClassFile.FieldType.int)), (3, 2, 0, 0))
abbrev mX3_priceOf : eb_M := ((yX3_priceOf, cX3_priceOf, 3, (Option.some Jvm.ClassFile.FieldType.int)), (3, 1, 0, 0))
abbrev mX3_rivers : eb_M := ((yX3_rivers, cX3_rivers, 5, (Option.some Jvm.ClassFile.FieldType.int)), (3, 2, 0, 0))
abbrev mX3_runsAt : eb_M := ((yX3_runsAt, cX3_runsAt, 6, (Option.some Jvm.ClassFile.FieldType.int)), (3, 4, 0, 0))
abbrev mX3_settle : eb_M := ((yX3_settle, cX3_settle, 7, (Option.none : Option Jvm.ClassFile.FieldType)), (3, 2, 0, 0))
abbrev mX3_solve : eb_M := ((yX3_solve, cX3_solve, 2, (Option.none : Option Jvm.ClassFile.FieldType)), (3, 3, 0, 0))
abbrev mX3_tightPrice : eb_M := ((yX3_tightPrice, cX3_tightPrice, 2, (Option.some Jvm.ClassFile.FieldType.int)), (3, 0, 0, 0))
abbrev mX3_widen : eb_M := ((yX3_widen, cX3_widen, 4, (Option.none : Option Jvm.ClassFile.FieldType)), (3, 0, 0, 0))
abbrev mX3_widthOf : eb_M := ((yX3_widthOf, cX3_widthOf, 3, (Option.some Jvm.ClassFile.FieldType.int)), (3, 0, 0, 0))
abbrev mX4_giveBack : eb_M := ((yX4_giveBack, cX4_giveBack, 3, (Option.none : Option Jvm.ClassFile.FieldType)), (4, 3, 0, 0))
abbrev mX4_init : eb_M := ((yX4_init, cX4_init, 2, (Option.none : Option Jvm.ClassFile.FieldType)), (4, 2, 33, 752))
abbrev mX4_remember : eb_M := ((yX4_remember, cX4_remember, 2, (Option.none : Option Jvm.ClassFile.FieldType)), (4, 3, 0, 0))
abbrev mX5_lengthOf : eb_M := ((yX5_lengthOf, cX5_lengthOf, 3, (Option.some Jvm.ClassFile.FieldType.int)), (99, 1, 0, 0))
abbrev mX5_letterAt : eb_M := ((yX5_letterAt, cX5_letterAt, 4, (Option.some Jvm.ClassFile.FieldType.int)), (99, 0, 0, 0))
abbrev mX5_letterWidth : eb_M := ((yX5_letterWidth, cX5_letterWidth, 1, (Option.some Jvm.ClassFile.FieldType.int)), (99, 0, 0, 0))
abbrev mX5_widthOf : eb_M := ((yX5_widthOf, cX5_widthOf, 5, (Option.some Jvm.ClassFile.FieldType.int)), (99, 2, 0, 0))
abbrev mX5_withLetter : eb_M := ((yX5_withLetter, cX5_withLetter, 4, (Option.some Jvm.ClassFile.FieldType.long)), (99, 0, 0, 0))
abbrev mX6_bestMeasure : eb_M := ((yX6_bestMeasure, cX6_bestMeasure, 5, (Option.some Jvm.ClassFile.FieldType.int)), (5, 0, 0, 0))
abbrev mX6_fill : eb_M := ((yX6_fill, cX6_fill, 3, (Option.none : Option Jvm.ClassFile.FieldType)), (5, 4, 0, 0))
abbrev mX6_fits : eb_M := ((yX6_fits, cX6_fits, 2, (Option.some Jvm.ClassFile.FieldType.boolean)), (5, 0, 0, 0))
abbrev mX6_fitting : eb_M := ((yX6_fitting, cX6_fitting, 3, (Option.some Jvm.ClassFile.FieldType.int)), (5, 1, 0, 0))
abbrev mX6_fittingThatBegin : eb_M := ((yX6_fittingThatBegin, cX6_fittingThatBegin, 4, (Option.some Jvm.ClassFile.FieldType.int)), (5, 1, 0, 0))
abbrev mX6_forget : eb_M := ((yX6_forget, cX6_forget, 1, (Option.none : Option Jvm.ClassFile.FieldType)), (5, 0, 0, 0))
abbrev mX6_greatestFitting : eb_M := ((yX6_greatestFitting, cX6_greatestFitting, 2, (Option.some Jvm.ClassFile.FieldType.int)), (5, 1, 0, 0))
abbrev mX6_init : eb_M := ((yX6_init, cX6_init, 1, (Option.none : Option Jvm.ClassFile.FieldType)), (5, 1, 2, 402))
abbrev mX6_leastFitting : eb_M := ((yX6_leastFitting, cX6_leastFitting, 2, (Option.some Jvm.ClassFile.FieldType.int)), (5, 1, 0, 0))
abbrev mX6_look : eb_M := ((yX6_look, cX6_look, 8, (Option.some Jvm.ClassFile.FieldType.int)), (5, 2, 0, 0))
abbrev mX6_note : eb_M := ((yX6_note, cX6_note, 3, (Option.some Jvm.ClassFile.FieldType.int)), (5, 0, 0, 0))
abbrev mX7_become : eb_M := ((yX7_become, cX7_become, 2, (Option.none : Option Jvm.ClassFile.FieldType)), (6, 2, 0, 0))
abbrev mX7_hasEnd : eb_M := ((yX7_hasEnd, cX7_hasEnd, 2, (Option.some Jvm.ClassFile.FieldType.boolean)), (6, 0, 0, 0))
abbrev mX7_hasWord : eb_M := ((yX7_hasWord, cX7_hasWord, 2, (Option.some Jvm.ClassFile.FieldType.boolean)), (6, 0, 0, 0))
abbrev mX7_init : eb_M := ((yX7_init, cX7_init, 1, (Option.none : Option Jvm.ClassFile.FieldType)), (6, 1, 1, 40))
abbrev mX7_putIn : eb_M := ((yX7_putIn, cX7_putIn, 5, (Option.none : Option Jvm.ClassFile.FieldType)), (6, 1, 0, 0))
abbrev mX7_setWords : eb_M := ((yX7_setWords, cX7_setWords, 3, (Option.none : Option Jvm.ClassFile.FieldType)), (6, 1, 0, 0))
abbrev mX7_takeOut : eb_M := ((yX7_takeOut, cX7_takeOut, 3, (Option.none : Option Jvm.ClassFile.FieldType)), (6, 1, 0, 0))
abbrev mX8_add : eb_M := ((yX8_add, cX8_add, 2, (Option.some Jvm.ClassFile.FieldType.int)), (7, 0, 0, 0))
abbrev mX8_addToWord : eb_M := ((yX8_addToWord, cX8_addToWord, 4, (Option.none : Option Jvm.ClassFile.FieldType)), (7, 1, 0, 0))
abbrev mX8_faultOf : eb_M := ((yX8_faultOf, cX8_faultOf, 3, (Option.some Jvm.ClassFile.FieldType.int)), (7, 0, 0, 0))
abbrev mX8_init : eb_M := ((yX8_init, cX8_init, 1, (Option.none : Option Jvm.ClassFile.FieldType)), (7, 1, 2, 280))
abbrev mX8_read : eb_M := ((yX8_read, cX8_read, 5, (Option.some Jvm.ClassFile.FieldType.int)), (7, 2, 0, 0))
abbrev mX9_best : eb_M := ((yX9_best, cX9_best, 6, (Option.some Jvm.ClassFile.FieldType.int)), (8, 6, 0, 0))
abbrev mX9_change : eb_M := ((yX9_change, cX9_change, 3, (Option.some Jvm.ClassFile.FieldType.int)), (8, 5, 0, 0))
abbrev mX9_cost : eb_M := ((yX9_cost, cX9_cost, 3, (Option.some Jvm.ClassFile.FieldType.int)), (8, 3, 0, 0))
abbrev mX9_drift : eb_M := ((yX9_drift, cX9_drift, 3, (Option.some Jvm.ClassFile.FieldType.int)), (8, 5, 0, 0))
abbrev mX9_driftOnce : eb_M := ((yX9_driftOnce, cX9_driftOnce, 3, (Option.none : Option Jvm.ClassFile.FieldType)), (8, 2, 0, 0))
abbrev mX9_end : eb_M := ((yX9_end, cX9_end, 3, (Option.some Jvm.ClassFile.FieldType.int)), (8, 5, 0, 0))
abbrev mX9_fault : eb_M := ((yX9_fault, cX9_fault, 1, (Option.some Jvm.ClassFile.FieldType.int)), (8, 0, 0, 0))
abbrev mX9_fee : eb_M := ((yX9_fee, cX9_fee, 2, (Option.some Jvm.ClassFile.FieldType.int)), (8, 5, 0, 0))
abbrev mX9_feed : eb_M := ((yX9_feed, cX9_feed, 2, (Option.some Jvm.ClassFile.FieldType.int)), (8, 1, 0, 0))
abbrev mX9_first : eb_M := ((yX9_first, cX9_first, 2, (Option.some Jvm.ClassFile.FieldType.int)), (8, 5, 0, 0))
abbrev mX9_free : eb_M := ((yX9_free, cX9_free, 2, (Option.some Jvm.ClassFile.FieldType.int)), (8, 5, 0, 0))
abbrev mX9_goBack : eb_M := ((yX9_goBack, cX9_goBack, 2, (Option.some Jvm.ClassFile.FieldType.int)), (8, 5, 0, 0))
abbrev mX9_grows : eb_M := ((yX9_grows, cX9_grows, 3, (Option.some Jvm.ClassFile.FieldType.int)), (8, 4, 0, 0))
abbrev mX9_init : eb_M := ((yX9_init, cX9_init, 3, (Option.none : Option Jvm.ClassFile.FieldType)), (8, 5, 200, 10000))
abbrev mX9_insert : eb_M := ((yX9_insert, cX9_insert, 3, (Option.some Jvm.ClassFile.FieldType.int)), (8, 5, 0, 0))
abbrev mX9_keep : eb_M := ((yX9_keep, cX9_keep, 2, (Option.some Jvm.ClassFile.FieldType.int)), (8, 3, 0, 0))
abbrev mX9_known : eb_M := ((yX9_known, cX9_known, 3, (Option.some Jvm.ClassFile.FieldType.int)), (8, 4, 0, 0))
abbrev mX9_layAnew : eb_M := ((yX9_layAnew, cX9_layAnew, 1, (Option.none : Option Jvm.ClassFile.FieldType)), (8, 4, 0, 0))
abbrev mX9_line : eb_M := ((yX9_line, cX9_line, 5, (Option.some Jvm.ClassFile.FieldType.int)), (8, 3, 0, 0))
abbrev mX9_measure : eb_M := ((yX9_measure, cX9_measure, 2, (Option.some Jvm.ClassFile.FieldType.int)), (8, 5, 0, 0))
abbrev mX9_readOneWord : eb_M := ((yX9_readOneWord, cX9_readOneWord, 2, (Option.some Jvm.ClassFile.FieldType.int)), (8, 3, 0, 0))
abbrev mX9_rule : eb_M := ((yX9_rule, cX9_rule, 2, (Option.some Jvm.ClassFile.FieldType.int)), (8, 5, 0, 0))
abbrev mX9_see : eb_M := ((yX9_see, cX9_see, 3, (Option.some Jvm.ClassFile.FieldType.int)), (8, 1, 0, 0))
abbrev mX9_seed : eb_M := ((yX9_seed, cX9_seed, 3, (Option.some Jvm.ClassFile.FieldType.int)), (8, 0, 0, 0))
abbrev mX9_surveyed : eb_M := ((yX9_surveyed, cX9_surveyed, 1, (Option.some (Jvm.ClassFile.FieldType.object "EvenBreaks$Survey"))), (8, 5, 0, 0))
abbrev mX9_tableOfRoots : eb_M := ((yX9_tableOfRoots, cX9_tableOfRoots, 3, (Option.some (Jvm.ClassFile.FieldType.array Jvm.ClassFile.FieldType.int))), (8, 0, 1, 200))
abbrev mX9_take : eb_M := ((yX9_take, cX9_take, 3, (Option.some Jvm.ClassFile.FieldType.int)), (8, 5, 0, 0))
abbrev mX9_tear : eb_M := ((yX9_tear, cX9_tear, 2, (Option.some Jvm.ClassFile.FieldType.int)), (8, 1, 0, 0))
abbrev mX9_told : eb_M := ((yX9_told, cX9_told, 2, (Option.some Jvm.ClassFile.FieldType.int)), (8, 6, 0, 0))
abbrev mX9_type : eb_M := ((yX9_type, cX9_type, 2, (Option.some Jvm.ClassFile.FieldType.int)), (8, 5, 0, 0))
abbrev mX9_undo : eb_M := ((yX9_undo, cX9_undo, 2, (Option.some Jvm.ClassFile.FieldType.int)), (8, 5, 0, 0))
abbrev mX9_with : eb_M := ((yX9_with, cX9_with, 2, (Option.some Jvm.ClassFile.FieldType.int)), (8, 5, 0, 0))
abbrev mX9_word : eb_M := ((yX9_word, cX9_word, 3, (Option.some Jvm.ClassFile.FieldType.int)), (8, 5, 0, 0))
abbrev mX9_write : eb_M := ((yX9_write, cX9_write, 3, (Option.some Jvm.ClassFile.FieldType.int)), (8, 1, 0, 0))
end
section
/-! The pure side: cells by their number, from a base on; a method's walk as a relation between pure states. -/
abbrev eb_H : Type := Nat → va_E
abbrev eb_Z : Type := Nat × Nat × Nat
abbrev eb_y (M : eb_M) : MethodName := M.1.1
abbrev eb_code (M : eb_M) : ByteArray := M.1.2.1
abbrev eb_nl (M : eb_M) : Nat := M.1.2.2.1
abbrev eb_ret (M : eb_M) : Option FieldType := M.1.2.2.2
abbrev eb_ci (M : eb_M) : Nat := M.2.1
abbrev eb_lv (M : eb_M) : Nat := M.2.2.1
abbrev eb_mc (M : eb_M) : Nat := M.2.2.2.1
abbrev eb_ms (M : eb_M) : Nat := M.2.2.2.2
def eb_v (b0 bs : Nat) (v : Value) : Value := match v with
  | .ref k => .ref (bs + k)
  | .retAddr _ => .ref b0
  | v => v
def eb_e (cs : Nat → ClassId) (b0 bs : Nat) (e : va_E) : va_E := match e with
  | .inl (t, n, .inl f) => .inl (cs t, n, .inl f)
  | .inl (t, n, .inr (.inl f)) => .inl (cs t, n, .inr (.inl f))
  | .inl (t, n, .inr (.inr (.inl f))) => .inl (cs t, n, .inr (.inr (.inl f)))
  | .inl (t, n, .inr (.inr (.inr (.inl f)))) => .inl (cs t, n, .inr (.inr (.inr (.inl f))))
  | .inl (t, n, .inr (.inr (.inr (.inr f)))) => .inl (cs t, n, .inr (.inr (.inr (.inr (fun i => (f i).map (fun k => bs + k))))))
  | .inr (c, fs) => .inr (c, fs.map (eb_v b0 bs))
def eb_w (cs : Nat → ClassId) (b0 bs n : Nat) (h : eb_H) : va_W := (List.range n).map (fun k => (bs + k, eb_e cs b0 bs (h k)))
def eb_up (h : eb_H) (k : Nat) (e : va_E) : eb_H := fun j => if j = k then e else h j
theorem eb_up_s {h : eb_H} {k : Nat} {e : va_E} : eb_up h k e k = e := if_pos rfl
theorem eb_up_n {h : eb_H} {k j : Nat} {e e' : va_E} (hn : j ≠ k) (he : h j = e') : eb_up h k e j = e' := (if_neg hn).trans he
theorem eb_w_at {cs : Nat → ClassId} {b0 bs n : Nat} {h : eb_H} {k : Nat} (hk : k < n) : (eb_w cs b0 bs n h)[k]? = some (bs + k, eb_e cs b0 bs (h k)) := by
  simp [eb_w, hk]
theorem eb_w_lt {cs : Nat → ClassId} {b0 bs n : Nat} {h : eb_H} {k : Nat} {q : Nat × va_E} (hk : (eb_w cs b0 bs n h)[k]? = some q) : k < n ∧ q = (bs + k, eb_e cs b0 bs (h k)) := by
  have hl : k < n := by
    have := (List.getElem?_eq_some_iff.mp hk).1
    simpa [eb_w] using this
  rw [eb_w_at hl] at hk
  exact ⟨hl, (Option.some.inj hk).symm⟩
theorem eb_w_set {cs : Nat → ClassId} {b0 bs n : Nat} {h : eb_H} {k : Nat} {e : va_E} (hk : k < n) : (eb_w cs b0 bs n h).set k (bs + k, eb_e cs b0 bs e) = eb_w cs b0 bs n (eb_up h k e) := by
  apply List.ext_getElem?
  intro j
  by_cases hj : j < n
  · rw [eb_w_at hj]
    by_cases e1 : j = k
    · subst e1
      rw [List.getElem?_set_self (by simp [eb_w, hj]), eb_up_s]
    · rw [List.getElem?_set_ne (fun q => e1 q.symm), eb_w_at hj]
      simp [eb_up, e1]
  · simp [eb_w, hj]
theorem eb_w_push {cs : Nat → ClassId} {b0 bs n : Nat} {h : eb_H} {e : va_E} : eb_w cs b0 bs n h ++ [(bs + n, eb_e cs b0 bs e)] = eb_w cs b0 bs (n + 1) (eb_up h n e) := by
  unfold eb_w
  rw [List.range_succ, List.map_append]
  congr 1
  · apply List.map_congr_left
    intro k hk
    have : k ≠ n := Nat.ne_of_lt (List.mem_range.mp hk)
    simp [eb_up, this]
  · simp [eb_up]
theorem eb_w_D {cs : Nat → ClassId} {b0 bs n : Nat} {h : eb_H} : va_D (fun q => bs ≤ q) (eb_w cs b0 bs n h) := by
  refine ⟨fun i j p q hi hj hpq => ?_, fun k q hk => ?_⟩
  · have h1 := (eb_w_lt hi).2
    have h2 := (eb_w_lt hj).2
    subst h1; subst h2
    simp only at hpq
    omega
  · have h1 := (eb_w_lt hk).2
    subst h1
    simp
def eb_ts : List Cond := lw_tbl.filter goodWord
def eb_ty (cs : Nat → ClassId) : List (ClassId × FieldType) := [(cs 0, .int), (cs 1, .long), (cs 2, .boolean), (cs 3, .object RX7), (cs 4, .object RX2)]
def eb_nw : List Cond := lw_tbl.filter (fun w => match w with | .methodLinkNest _ _ _ _ => true | _ => false)
/-- what the tables say, at any state of the run -/
def eb_K (D : va_G) (cs : Nat → ClassId) (U : State) : Prop := va_K D vwCl (eb_ty cs) U ∧ va_AO RX7 U ∧ va_AO RX2 U ∧ ∀ w ∈ eb_nw, va_Nw w U
theorem eb_nw_kind {w : Cond} (h : w ∈ eb_nw) : ∃ a i x hh, w = .methodLinkNest a i x hh := by
  have h1 := (List.mem_filter.mp h).2
  cases w <;> simp at h1
  exact ⟨_, _, _, _, rfl⟩
theorem eb_K.warm {D : va_G} {cs : Nat → ClassId} {s U : State} (hW : s.WarmedH U.vm) (h : eb_K D cs s) : eb_K D cs U := by
  obtain ⟨h1, h2, h3, h4⟩ := h
  refine ⟨va_K.moved hW.alike h1, va_AO.moved hW.alike h2, va_AO.moved hW.alike h3, fun w hw => ?_⟩
  obtain ⟨a, i, x, hh, rfl⟩ := eb_nw_kind hw
  exact va_Nw.warmM hW (h4 _ hw)
theorem eb_K.calling {D : va_G} {cs : Nat → ClassId} {U : State} {g : JFrame} {mk : MethodId} {a : Array Value} (h : eb_K D cs U) : eb_K D cs (U.calling g mk a) := by
  obtain ⟨h1, h2, h3, h4⟩ := h
  refine ⟨va_K.moved (u := U) (U := U.calling g mk a) (Vm.Alike.refl U.vm) h1, va_AO.moved (u := U) (U := U.calling g mk a) (Vm.Alike.refl U.vm) h2, va_AO.moved (u := U) (U := U.calling g mk a) (Vm.Alike.refl U.vm) h3, fun w hw => ?_⟩
  have := h4 w hw
  obtain ⟨a, i, x, hh, rfl⟩ := eb_nw_kind hw
  exact va_Nw.same rfl (u := U) rfl this
/-- where the machine stands: its code, its tables, its room -/
def eb_C (M : eb_M) (p : Program) (R : Room) (s : State) (m : MethodId) (args : Array Value) (meth : Method) (c : Code) : Prop :=
  p.tables.exec = Jvm.exec ∧ c.code = eb_code M ∧ c.maxLocals = eb_nl M ∧ s.vm.findClass (eb_y M).cls = some m.cls ∧ (∀ w ∈ eb_ts, w.before args s = true) ∧ (eb_lv M ≤ R.frames ∧ 36 * eb_lv M ≤ R.locals) ∧ (eb_mc M ≤ R.cells ∧ eb_ms M ≤ R.slots) ∧ ((eb_y M).name = "<init>" → meth.name = "<init>")
def eb_wf (n : Nat) (h : eb_H) : Prop := ∀ k : Nat, n ≤ k → h k = .inr (99, [])
def eb_P (D : va_G) (cs : Nat → ClassId) (b0 bs : Nat) (s : State) (z : eb_Z) (h : eb_H) (H : Heap) (locs : List Loc) : Prop :=
  va_P D vwCl (eb_w cs b0 bs z.1 h) H ∧ eb_K D cs s ∧ va_S (fun q => bs ≤ q) s.heap H locs ∧ (s.heap.size + z.2.1 ≤ bs + z.1 ∧ bs ≤ s.heap.size) ∧ eb_wf z.1 h
theorem eb_P.size {D : va_G} {cs : Nat → ClassId} {b0 bs : Nat} {s : State} {z : eb_Z} {h : eb_H} {H : Heap} {locs : List Loc} (hP : eb_P D cs b0 bs s z h H locs) (hu : H.size ≤ s.heap.size + z.2.1) : H.size = bs + z.1 := by
  obtain ⟨n, c, q⟩ := z
  have h1 := hP.2.2.2.1.1
  have h2 := hP.2.2.2.1.2
  have h3 := hP.2.2.1.1
  simp only at h1 hu ⊢
  cases n with
  | zero => omega
  | succ n =>
    have h4 := (hP.1 n _ (eb_w_at (Nat.lt_succ_self n))).lt
    simp only at h4
    omega
theorem eb_sized {p : Program} {l : Launch} {e : Env} {R : Room} {s : State} {m : MethodId} {args : Array Value} {below : List Frame} {meth : Method} {c : Code} {H : Heap} {locs : List Loc} {cells slots : Nat} {Q : State → Prop} {g : JFrame} (k : H.size ≤ s.heap.size + cells → W p l e R s m args below meth c H locs cells slots Q g) : W p l e R s m args below meth c H locs cells slots Q g :=
  fun T hT X => k (by have := X.same.2.2.1; rw [← hT]; exact this) T hT X
abbrev eb_no : Value := .double 0
def eb_L (b0 bs nL : Nat) (ls : List Value) (l' : Array Slot) : Prop := l'.size = nL ∧ lv_wf l' ∧ ls.length = nL ∧ ∀ (k : Nat) (v : Value), ls[k]? = some v → v ≠ eb_no → l'[k]? = some (.val (eb_v b0 bs v))
/-- from this state of the frame the machine comes to one with Q -/
def eb_V (M : eb_M) (E : Nat → Nat → State → Prop) (pc : Nat) (ls st : List Value) (z : eb_Z) (h : eb_H) (Q : Nat → List Value → List Value → eb_Z → eb_H → Prop) : Prop :=
  ∀ (l : Launch) (D : va_G) (cs : Nat → ClassId) (b0 bs : Nat) (p : Program) (e : Env) (R : Room) (s : State) (m : MethodId) (args : Array Value) (below : List Frame) (meth : Method) (c : Code) (Zf : State → Prop),
    eb_C M p R s m args meth c → E b0 bs s →
    (∀ (pc : Nat) (ls st : List Value) (z : eb_Z) (h : eb_H) (H : Heap) (locs : List Loc) (l' : Array Slot), Q pc ls st z h → eb_P D cs b0 bs s z h H locs → eb_L b0 bs (eb_nl M) ls l' → W p l e R s m args below meth c H locs z.2.1 z.2.2 Zf (F0 m pc l' (st.map (eb_v b0 bs)))) →
    ∀ (H : Heap) (locs : List Loc) (l' : Array Slot), eb_P D cs b0 bs s z h H locs → eb_L b0 bs (eb_nl M) ls l' → W p l e R s m args below meth c H locs z.2.1 z.2.2 Zf (F0 m pc l' (st.map (eb_v b0 bs)))
def eb_at (M : eb_M) (pc pc' : Nat) (i : Instr) (n : Nat) : Prop := decode (eb_code M) pc = .ok (i, n) ∧ pc + n = pc'
section EBV
variable {M : eb_M} {E : Nat → Nat → State → Prop} {pc pc' : Nat} {ls ls' st st' : List Value} {z z' : eb_Z} {h h' : eb_H} {Q Q' : Nat → List Value → List Value → eb_Z → eb_H → Prop}
theorem eb_V.go (hstep : ∀ (l : Launch) (D : va_G) (cs : Nat → ClassId) (b0 bs : Nat) (p : Program) (e : Env) (R : Room) (s : State) (m : MethodId) (args : Array Value) (below : List Frame) (meth : Method) (c : Code) (Zf : State → Prop), eb_C M p R s m args meth c → E b0 bs s →
      ∀ (H : Heap) (locs : List Loc) (l' : Array Slot), eb_P D cs b0 bs s z h H locs → eb_L b0 bs (eb_nl M) ls l' →
      (∀ (H : Heap) (locs : List Loc) (l' : Array Slot), eb_P D cs b0 bs s z' h' H locs → eb_L b0 bs (eb_nl M) ls' l' → W p l e R s m args below meth c H locs z'.2.1 z'.2.2 Zf (F0 m pc' l' (st'.map (eb_v b0 bs)))) →
      W p l e R s m args below meth c H locs z.2.1 z.2.2 Zf (F0 m pc l' (st.map (eb_v b0 bs)))) (k : eb_V M E pc' ls' st' z' h' Q) : eb_V M E pc ls st z h Q :=
  fun l D cs b0 bs p e R s m args below meth c Zf C hE hq H locs l' hP hL => hstep l D cs b0 bs p e R s m args below meth c Zf C hE H locs l' hP hL (fun H locs l' hP hL => k l D cs b0 bs p e R s m args below meth c Zf C hE hq H locs l' hP hL)
theorem eb_V.done (hq : Q pc ls st z h) : eb_V M E pc ls st z h Q :=
  fun _ _ _ _ _ _ _ _ _ _ _ _ _ _ _ _ _ k H locs l' hP hL => k pc ls st z h H locs l' hq hP hL
theorem eb_V.then (k : eb_V M E pc ls st z h Q) (kk : ∀ pc ls st z h, Q pc ls st z h → eb_V M E pc ls st z h Q') : eb_V M E pc ls st z h Q' :=
  fun l D cs b0 bs p e R s m args below meth c Zf C hE hq H locs l' hP hL => k l D cs b0 bs p e R s m args below meth c Zf C hE (fun pc ls st z h H locs l' hQ hP hL => kk pc ls st z h hQ l D cs b0 bs p e R s m args below meth c Zf C hE hq H locs l' hP hL) H locs l' hP hL
end EBV
/-- the locals that a call begins with -/
def eb_sl : List Value → List Value
  | [] => []
  | v :: t => if v.category = 2 then v :: eb_no :: eb_sl t else v :: eb_sl t
def eb_ls (M : eb_M) (as : List Value) : List Value := eb_sl as ++ List.replicate (eb_nl M - (eb_sl as).length) eb_no
def eb_rm (M : eb_M) : Room := { frames := eb_lv M, cells := eb_mc M, slots := eb_ms M, locals := 36 * eb_lv M }
def eb_ws (M : eb_M) : List Cond := .code (eb_y M) (eb_code M) (eb_nl M) (eb_ret M) :: eb_ts
/-- a method's contract -/
def eb_T (M : eb_M) (as : List Value) (n : Nat) (h : eb_H) (Q : Option Value → Nat → eb_H → Prop) : Prop :=
  ∀ (l : Launch) (D : va_G) (cs : Nat → ClassId) (b0 bs : Nat), Met l (eb_y M) (eb_ws M) (eb_rm M) (va_Pc (as.map (eb_v b0 bs)) (fun U => U.heap.size = bs + n ∧ va_P D vwCl (eb_w cs b0 bs n h) U.heap ∧ eb_K D cs U ∧ eb_wf n h))
    (fun _ st oc t => (∃ (r : Option Value) (n' : Nat) (h' : eb_H), oc = .returned (r.map (eb_v b0 bs)) ∧ Q r n' h' ∧ t.heap.size = bs + n' ∧ va_P D vwCl (eb_w cs b0 bs n' h') t.heap ∧ eb_wf n' h') ∧ va_F (fun q => bs ≤ q) st t) (eb_mc M) (eb_ms M) (fun q => bs ≤ q)
def eb_end (M : eb_M) (pc : Nat) (st : List Value) (r : Option Value) : Prop :=
  (∃ x ty, decode (eb_code M) pc = .ok (.ireturn, 1) ∧ st = [.int x] ∧ r = some (.int x) ∧ eb_ret M = some ty ∧ narrow ty (.int x) = .int x) ∨
  (∃ x, decode (eb_code M) pc = .ok (.lreturn, 1) ∧ st = [.long x] ∧ r = some (.long x) ∧ eb_ret M = some .long) ∨
  (decode (eb_code M) pc = .ok (.return_, 1) ∧ st = [] ∧ r = none ∧ eb_ret M = none) ∨
  (∃ k rt, decode (eb_code M) pc = .ok (.areturn, 1) ∧ st = [.ref k] ∧ r = some (.ref k) ∧ eb_ret M = some rt ∧ ((∃ n, rt = .object n) ∨ ∃ t, rt = .array t))
def eb_R (M : eb_M) (Q : Option Value → Nat → eb_H → Prop) : Nat → List Value → List Value → eb_Z → eb_H → Prop := fun pc _ st z h => (z.2.1 ≤ eb_mc M ∧ z.2.2 ≤ eb_ms M) ∧ ∃ r, Q r z.1 h ∧ eb_end M pc st r
theorem eb_v_cat (b0 bs : Nat) (v : Value) : (eb_v b0 bs v).category = v.category := by cases v <;> rfl
theorem eb_entry_L (b0 bs : Nat) (as : List Value) (n : Nat) (hn : (eb_sl as).length ≤ n) : eb_L b0 bs n (eb_sl as ++ List.replicate (n - (eb_sl as).length) eb_no) ((lg_sl (as.map (eb_v b0 bs)) ++ List.replicate (n - (lg_sl (as.map (eb_v b0 bs))).length) Slot.unset).toArray) := by
  have hlen : (lg_sl (as.map (eb_v b0 bs))).length = (eb_sl as).length := by
    clear hn
    induction as with
    | nil => rfl
    | cons v t ih =>
      have ih' : (lg_sl (List.map (eb_v b0 bs) t)).length = (eb_sl t).length := ih
      simp only [lg_sl, List.map_cons, List.flatMap_cons, eb_sl, eb_v_cat, List.length_append] at ih' ⊢
      by_cases hc : v.category = 2
      · simp [hc, ih']; omega
      · simp [hc, ih']; omega
  have h1 := lv_entry (as.map (eb_v b0 bs)) (n := n) (by rw [hlen]; exact hn)
  refine ⟨h1.1, h1.2.1, by simp; omega, fun k v hk hv => ?_⟩
  have hkl : k < (eb_sl as).length := by
    rcases Nat.lt_or_ge k (eb_sl as).length with q | q
    · exact q
    · rw [List.getElem?_append_right q] at hk
      have := List.mem_of_getElem? hk
      rw [List.mem_replicate] at this
      exact absurd this.2 hv
  rw [List.getElem?_append_left hkl] at hk
  rw [List.getElem?_toArray, List.getElem?_append_left (by rw [hlen]; exact hkl)]
  clear h1 hlen hkl hn
  induction as generalizing k with
  | nil => simp [eb_sl] at hk
  | cons a t ih =>
    simp only [lg_sl, List.map_cons, List.flatMap_cons, eb_sl, eb_v_cat] at hk ⊢
    by_cases hc : a.category = 2
    · rw [if_pos hc] at hk
      rw [if_pos hc]
      match k, hk with
      | 0, hk => simp at hk; subst hk; rfl
      | 1, hk => simp at hk; exact absurd hk.symm hv
      | k + 2, hk =>
        simp only [List.getElem?_cons_succ] at hk
        exact ih k hk
    · rw [if_neg hc] at hk
      rw [if_neg hc]
      match k, hk with
      | 0, hk => simp at hk; subst hk; rfl
      | k + 1, hk =>
        simp only [List.getElem?_cons_succ] at hk
        exact ih k hk
theorem eb_T.of {M : eb_M} {as : List Value} {n : Nat} {h : eb_H} {Q : Option Value → Nat → eb_H → Prop} (hy : plainName (eb_y M).cls = true) (hn : (eb_sl as).length ≤ eb_nl M)
    (k : eb_V M (fun _ _ _ => True) 0 (eb_ls M as) [] (n, 0, 0) h (eb_R M Q)) : eb_T M as n h Q := by
  intro l D cs b0 bs
  refine Met.ofW (cc := eb_code M) (maxL := eb_nl M) (ret := eb_ret M) hy rfl ?_
  intro p e s m args below meth c s₁ B hml hv
  obtain ⟨rfl, hsz, hP, hK, hwf⟩ := hv
  have hx := B.exec
  have hb := B.bytes
  have hr := B.returns
  have hts := atoms_spec (ws := eb_ws M) B.pre
  have hown : s.vm.findClass (eb_y M).cls = some m.cls := findClass_of_methodNamed B.named
  have hlocks := B.notSynchronized
  have hin : meth.name = (eb_y M).name := (name_of_methodNamed B.named B.method).1
  rw [lg_entry_eq]
  refine k l D cs b0 bs p e _ s m _ below meth c _ ⟨hx, hb, hml, hown, fun w hw => hts w (List.mem_cons_of_mem _ hw), ⟨Nat.le_refl _, Nat.le_refl _⟩, ⟨Nat.le_refl _, Nat.le_refl _⟩, fun q => hin.trans q⟩ trivial ?_ s.heap [] _ ⟨hP, hK, va_S.rf, ⟨by simp only; omega, by omega⟩, hwf⟩ (eb_entry_L b0 bs as (eb_nl M) hn)
  intro pc ls st z h' H locs l' hQ hP' hL
  obtain ⟨⟨hc1, hc2⟩, r, hq, hend⟩ := hQ
  refine eb_sized (fun hsz1 => ?_)
  have hz1 := hP'.size hsz1
  obtain ⟨hP1, hK1, hS1, hb1, hw1⟩ := hP'
  refine W.widen (k := eb_mc M) (n := eb_ms M) hc1 hc2 ?_
  rcases hend with ⟨x, ty, hd, rfl, rfl, hrt, hnr⟩ | ⟨x, hd, rfl, rfl, hrt⟩ | ⟨hd, rfl, rfl, hrt⟩ | ⟨k, rt, hd, rfl, rfl, hrt, hrk⟩
  · exact W.zret (v := x) hx hb (hr.trans hrt) hnr (fun t ht hW => ⟨⟨some (.int x), z.1, h', rfl, hq, by rw [ht]; exact hz1, by rw [ht]; exact hP1, hw1⟩, hS1.F ht⟩) hS1.2.2 hd
  · exact W.lret (v := x) hx hb (hr.trans hrt) (fun t ht hW => ⟨⟨some (.long x), z.1, h', rfl, hq, by rw [ht]; exact hz1, by rw [ht]; exact hP1, hw1⟩, hS1.F ht⟩) hS1.2.2 hd
  · exact W.vret hx hb (hr.trans hrt) (fun t ht hW => ⟨⟨none, z.1, h', rfl, hq, by rw [ht]; exact hz1, by rw [ht]; exact hP1, hw1⟩, hS1.F ht⟩) hS1.2.2 hd
  · exact W.aret (v := .ref (bs + k)) hx hb (hr.trans hrt) hrk (Or.inr ⟨_, rfl⟩) (fun t ht hW => ⟨⟨some (.ref k), z.1, h', rfl, hq, by rw [ht]; exact hz1, by rw [ht]; exact hP1, hw1⟩, hS1.F ht⟩) hS1.2.2 hd
theorem eb_T.mono {M : eb_M} {as : List Value} {n : Nat} {h : eb_H} {Q Q' : Option Value → Nat → eb_H → Prop} (k : eb_T M as n h Q) (hq : ∀ r n h, Q r n h → Q' r n h) : eb_T M as n h Q' := by
  intro l D cs b0 bs
  exact MetFree.mono (k l D cs b0 bs) (fun _ _ hh => hh) (fun _ _ _ _ _ hh => hh) (fun a st o t hp hh => ⟨⟨by obtain ⟨⟨⟨r, n', h', e1, e2, e3⟩, e4⟩, -⟩ := hh; exact ⟨r, n', h', e1, hq _ _ _ e2, e3⟩, hh.1.2⟩, hh.2⟩)
end
section
/-- numbers: an int is Int32.ofInt of a whole number -/
def eb_I (z : Int) : Int32 := Int32.ofInt z
def eb_J (z : Int) : Int64 := Int64.ofInt z
theorem eb_I_add (a b : Int) : eb_I a + eb_I b = eb_I (a + b) := (Int32.ofInt_add a b).symm
theorem eb_I_sub (a b : Int) : eb_I a - eb_I b = eb_I (a - b) := (Int32.ofInt_sub a b).symm
theorem eb_I_mul (a b : Int) : eb_I a * eb_I b = eb_I (a * b) := (Int32.ofInt_mul a b).symm
theorem eb_I_neg (a : Int) : - eb_I a = eb_I (-a) := (Int32.ofInt_neg a).symm
theorem eb_I_of (x : Int32) : eb_I x.toInt = x := Int32.ofInt_toInt x
theorem eb_I_to {a : Int} (h : -2147483648 ≤ a ∧ a ≤ 2147483647) : (eb_I a).toInt = a := Int32.toInt_ofInt_of_le (by show -2147483648 ≤ a; omega) (by show a < 2147483648; omega)
theorem eb_I_r (x : Int32) : -2147483648 ≤ x.toInt ∧ x.toInt ≤ 2147483647 := by
  have h1 := Int32.le_toInt x
  have h2 := Int32.toInt_lt x
  have e1 : (-2 ^ 31 : Int) = -2147483648 := by decide
  have e2 : (2 ^ 31 : Int) = 2147483648 := by decide
  omega
theorem eb_J_add (a b : Int) : eb_J a + eb_J b = eb_J (a + b) := (Int64.ofInt_add a b).symm
theorem eb_J_mul (a b : Int) : eb_J a * eb_J b = eb_J (a * b) := (Int64.ofInt_mul a b).symm
theorem eb_J_of (x : Int64) : eb_J x.toInt = x := Int64.ofInt_toInt x
theorem eb_J_to {a : Int} (h : -9223372036854775808 ≤ a ∧ a ≤ 9223372036854775807) : (eb_J a).toInt = a := Int64.toInt_ofInt_of_le (by show -9223372036854775808 ≤ a; omega) (by show a < 9223372036854775808; omega)
theorem eb_I_inj {a b : Int} (ha : -2147483648 ≤ a ∧ a ≤ 2147483647) (hb : -2147483648 ≤ b ∧ b ≤ 2147483647) : eb_I a = eb_I b ↔ a = b := by
  constructor
  · intro q
    rw [← eb_I_to ha, q, eb_I_to hb]
  · rintro rfl; rfl
theorem eb_I_lt {a b : Int} (ha : -2147483648 ≤ a ∧ a ≤ 2147483647) (hb : -2147483648 ≤ b ∧ b ≤ 2147483647) : eb_I a < eb_I b ↔ a < b := by
  rw [Int32.lt_iff_toInt_lt, eb_I_to ha, eb_I_to hb]
theorem eb_I_le {a b : Int} (ha : -2147483648 ≤ a ∧ a ≤ 2147483647) (hb : -2147483648 ≤ b ∧ b ≤ 2147483647) : eb_I a ≤ eb_I b ↔ a ≤ b := by
  rw [Int32.le_iff_toInt_le, eb_I_to ha, eb_I_to hb]
theorem eb_I_nat {a : Int} (h : 0 ≤ a ∧ a ≤ 2147483647) : (eb_I a).toNatClampNeg = a.toNat := by
  show (eb_I a).toInt.toNat = a.toNat
  rw [eb_I_to (by omega)]
theorem eb_I_in {a : Int} {n : Nat} (h : 0 ≤ a ∧ a < n) (hn : n ≤ 2147483647) : vp_in (eb_I a) n := by
  intro q
  rcases q with q | q
  · rw [show (0 : Int32) = eb_I 0 from rfl, eb_I_lt (by omega) (by omega)] at q
    omega
  · rw [eb_I_nat (by omega)] at q
    omega
/-- arrays of whole numbers -/
def eb_ia (n : Nat) (f : Nat → Int) : va_E := .inl (0, n, .inl (fun k => eb_I (f k)))
def eb_la (n : Nat) (f : Nat → Int) : va_E := .inl (1, n, .inr (.inl (fun k => eb_J (f k))))
def eb_za (n : Nat) (f : Nat → Int) : va_E := .inl (2, n, .inl (fun k => eb_I (f k)))
def eb_qa (t n : Nat) (f : Nat → Option Nat) : va_E := .inl (t, n, .inr (.inr (.inr (.inr f))))
def eb_set {α : Type} (f : Nat → α) (k : Nat) (x : α) : Nat → α := fun j => if j = k then x else f j
theorem eb_upd_I (f : Nat → Int) (k : Nat) (x : Int) : upd (fun j => eb_I (f j)) k (eb_I x) = fun j => eb_I (eb_set f k x j) := by
  funext j; simp only [upd, eb_set]; split <;> rfl
section EBR
variable {M : eb_M} {E : Nat → Nat → State → Prop} {pc pc' : Nat} {ls st : List Value} {z : eb_Z} {h : eb_H} {Q : Nat → List Value → List Value → eb_Z → eb_H → Prop}
theorem V_iadd {a b : Int} (hd : eb_at M pc pc' .iadd 1)  (k : eb_V M E pc' ls (.int (eb_I (a + b)) :: st) z h Q) : eb_V M E pc ls (.int (eb_I b) :: .int (eb_I a) :: st) z h Q := by
  obtain ⟨hd, rfl⟩ := hd
  refine eb_V.go (fun l D cs b0 bs p e R s m args below meth c Zf C hE H locs l' hP hL kk => ?_) k
  exact lv_iadd (x := eb_I a) (y := eb_I b) C.1 C.2.1 hd (by rw [eb_I_add]; exact kk H locs l' hP hL)
theorem V_isub {a b : Int} (hd : eb_at M pc pc' .isub 1)  (k : eb_V M E pc' ls (.int (eb_I (a - b)) :: st) z h Q) : eb_V M E pc ls (.int (eb_I b) :: .int (eb_I a) :: st) z h Q := by
  obtain ⟨hd, rfl⟩ := hd
  refine eb_V.go (fun l D cs b0 bs p e R s m args below meth c Zf C hE H locs l' hP hL kk => ?_) k
  exact lv_isub (x := eb_I a) (y := eb_I b) C.1 C.2.1 hd (by rw [eb_I_sub]; exact kk H locs l' hP hL)
theorem V_imul {a b : Int} (hd : eb_at M pc pc' .imul 1)  (k : eb_V M E pc' ls (.int (eb_I (a * b)) :: st) z h Q) : eb_V M E pc ls (.int (eb_I b) :: .int (eb_I a) :: st) z h Q := by
  obtain ⟨hd, rfl⟩ := hd
  refine eb_V.go (fun l D cs b0 bs p e R s m args below meth c Zf C hE H locs l' hP hL kk => ?_) k
  exact lv_imul (x := eb_I a) (y := eb_I b) C.1 C.2.1 hd (by rw [eb_I_mul]; exact kk H locs l' hP hL)
theorem V_ineg {a : Int} (hd : eb_at M pc pc' .ineg 1)  (k : eb_V M E pc' ls (.int (eb_I (-a)) :: st) z h Q) : eb_V M E pc ls (.int (eb_I a) :: st) z h Q := by
  obtain ⟨hd, rfl⟩ := hd
  refine eb_V.go (fun l D cs b0 bs p e R s m args below meth c Zf C hE H locs l' hP hL kk => ?_) k
  exact lv_ineg (x := eb_I a) C.1 C.2.1 hd (by rw [eb_I_neg]; exact kk H locs l' hP hL)
theorem V_ladd {a b : Int} (hd : eb_at M pc pc' .ladd 1)  (k : eb_V M E pc' ls (.long (eb_J (a + b)) :: st) z h Q) : eb_V M E pc ls (.long (eb_J b) :: .long (eb_J a) :: st) z h Q := by
  obtain ⟨hd, rfl⟩ := hd
  refine eb_V.go (fun l D cs b0 bs p e R s m args below meth c Zf C hE H locs l' hP hL kk => ?_) k
  exact lv_ladd (x := eb_J a) (y := eb_J b) C.1 C.2.1 hd (by rw [eb_J_add]; exact kk H locs l' hP hL)
theorem V_lmul {a b : Int} (hd : eb_at M pc pc' .lmul 1)  (k : eb_V M E pc' ls (.long (eb_J (a * b)) :: st) z h Q) : eb_V M E pc ls (.long (eb_J b) :: .long (eb_J a) :: st) z h Q := by
  obtain ⟨hd, rfl⟩ := hd
  refine eb_V.go (fun l D cs b0 bs p e R s m args below meth c Zf C hE H locs l' hP hL kk => ?_) k
  exact lv_lmul (x := eb_J a) (y := eb_J b) C.1 C.2.1 hd (by rw [eb_J_mul]; exact kk H locs l' hP hL)
theorem V_iand {x y v : Int32} (hd : eb_at M pc pc' .iand 1) (hv : x &&& y = v) (k : eb_V M E pc' ls (.int v :: st) z h Q) : eb_V M E pc ls (.int y :: .int x :: st) z h Q := by
  obtain ⟨hd, rfl⟩ := hd
  refine eb_V.go (fun l D cs b0 bs p e R s m args below meth c Zf C hE H locs l' hP hL kk => ?_) k
  exact lv_iand (x := x) (y := y) C.1 C.2.1 hd (by rw [hv]; exact kk H locs l' hP hL)
theorem V_land {x y v : Int64} (hd : eb_at M pc pc' .land 1) (hv : x &&& y = v) (k : eb_V M E pc' ls (.long v :: st) z h Q) : eb_V M E pc ls (.long y :: .long x :: st) z h Q := by
  obtain ⟨hd, rfl⟩ := hd
  refine eb_V.go (fun l D cs b0 bs p e R s m args below meth c Zf C hE H locs l' hP hL kk => ?_) k
  exact lv_land (x := x) (y := y) C.1 C.2.1 hd (by rw [hv]; exact kk H locs l' hP hL)
theorem V_lor {x y v : Int64} (hd : eb_at M pc pc' .lor 1) (hv : x ||| y = v) (k : eb_V M E pc' ls (.long v :: st) z h Q) : eb_V M E pc ls (.long y :: .long x :: st) z h Q := by
  obtain ⟨hd, rfl⟩ := hd
  refine eb_V.go (fun l D cs b0 bs p e R s m args below meth c Zf C hE H locs l' hP hL kk => ?_) k
  exact lv_lor (x := x) (y := y) C.1 C.2.1 hd (by rw [hv]; exact kk H locs l' hP hL)
theorem V_idiv {x y v : Int32} (hd : eb_at M pc pc' .idiv 1) (hne : ¬ y = 0) (hv : x / y = v) (k : eb_V M E pc' ls (.int v :: st) z h Q) : eb_V M E pc ls (.int y :: .int x :: st) z h Q := by
  obtain ⟨hd, rfl⟩ := hd
  refine eb_V.go (fun l D cs b0 bs p e R s m args below meth c Zf C hE H locs l' hP hL kk => ?_) k
  exact lv_idiv (x := x) (y := y) C.1 C.2.1 hd hne (by rw [hv]; exact kk H locs l' hP hL)
theorem V_irem {x y v : Int32} (hd : eb_at M pc pc' .irem 1) (hne : ¬ y = 0) (hv : x - x / y * y = v) (k : eb_V M E pc' ls (.int v :: st) z h Q) : eb_V M E pc ls (.int y :: .int x :: st) z h Q := by
  obtain ⟨hd, rfl⟩ := hd
  refine eb_V.go (fun l D cs b0 bs p e R s m args below meth c Zf C hE H locs l' hP hL kk => ?_) k
  exact lv_irem (x := x) (y := y) C.1 C.2.1 hd hne (by rw [hv]; exact kk H locs l' hP hL)
theorem V_lrem {x y v : Int64} (hd : eb_at M pc pc' .lrem 1) (hne : ¬ y = 0) (hv : x - x / y * y = v) (k : eb_V M E pc' ls (.long v :: st) z h Q) : eb_V M E pc ls (.long y :: .long x :: st) z h Q := by
  obtain ⟨hd, rfl⟩ := hd
  refine eb_V.go (fun l D cs b0 bs p e R s m args below meth c Zf C hE H locs l' hP hL kk => ?_) k
  exact lv_lrem (x := x) (y := y) C.1 C.2.1 hd hne (by rw [hv]; exact kk H locs l' hP hL)
theorem V_lshl {x v : Int64} {y : Int32} (hd : eb_at M pc pc' .lshl 1) (hv : x <<< (y.toInt64 &&& 63) = v) (k : eb_V M E pc' ls (.long v :: st) z h Q) : eb_V M E pc ls (.int y :: .long x :: st) z h Q := by
  obtain ⟨hd, rfl⟩ := hd
  refine eb_V.go (fun l D cs b0 bs p e R s m args below meth c Zf C hE H locs l' hP hL kk => ?_) k
  exact lv_lshl (x := x) (y := y) C.1 C.2.1 hd hv (kk H locs l' hP hL)
theorem V_lshr {x v : Int64} {y : Int32} (hd : eb_at M pc pc' .lshr 1) (hv : x >>> (y.toInt64 &&& 63) = v) (k : eb_V M E pc' ls (.long v :: st) z h Q) : eb_V M E pc ls (.int y :: .long x :: st) z h Q := by
  obtain ⟨hd, rfl⟩ := hd
  refine eb_V.go (fun l D cs b0 bs p e R s m args below meth c Zf C hE H locs l' hP hL kk => ?_) k
  exact lv_lshr (x := x) (y := y) C.1 C.2.1 hd hv (kk H locs l' hP hL)
theorem V_i2l {x : Int32} {v : Int64} (hd : eb_at M pc pc' .i2l 1) (hv : x.toInt64 = v) (k : eb_V M E pc' ls (.long v :: st) z h Q) : eb_V M E pc ls (.int x :: st) z h Q := by
  obtain ⟨hd, rfl⟩ := hd
  refine eb_V.go (fun l D cs b0 bs p e R s m args below meth c Zf C hE H locs l' hP hL kk => ?_) k
  exact lv_i2l (x := x) C.1 C.2.1 hd hv (kk H locs l' hP hL)
theorem V_l2i {x : Int64} {v : Int32} (hd : eb_at M pc pc' .l2i 1) (hv : x.toInt32 = v) (k : eb_V M E pc' ls (.int v :: st) z h Q) : eb_V M E pc ls (.long x :: st) z h Q := by
  obtain ⟨hd, rfl⟩ := hd
  refine eb_V.go (fun l D cs b0 bs p e R s m args below meth c Zf C hE H locs l' hP hL kk => ?_) k
  exact lv_l2i (x := x) C.1 C.2.1 hd hv (kk H locs l' hP hL)
theorem V_lcmp {x y : Int64} {v : Int32} (hd : eb_at M pc pc' .lcmp 1) (hv : lg_cmp x y = v) (k : eb_V M E pc' ls (.int v :: st) z h Q) : eb_V M E pc ls (.long y :: .long x :: st) z h Q := by
  obtain ⟨hd, rfl⟩ := hd
  refine eb_V.go (fun l D cs b0 bs p e R s m args below meth c Zf C hE H locs l' hP hL kk => ?_) k
  exact W.lcmp (x := x) (y := y) C.1 C.2.1 hd (by rw [hv]; exact kk H locs l' hP hL)
theorem V_iconst {a : Int} (hd : eb_at M pc pc' (.iconst a) 1)  (k : eb_V M E pc' ls (.int (eb_I a) :: st) z h Q) : eb_V M E pc ls (st) z h Q := by
  obtain ⟨hd, rfl⟩ := hd
  refine eb_V.go (fun l D cs b0 bs p e R s m args below meth c Zf C hE H locs l' hP hL kk => ?_) k
  exact lv_iconst (v := eb_I a) C.1 C.2.1 hd rfl (kk H locs l' hP hL)
theorem V_bipush {a : Int} (hd : eb_at M pc pc' (.bipush a) 2) (hv : (Int8.ofInt a).toInt32 = eb_I a) (k : eb_V M E pc' ls (.int (eb_I a) :: st) z h Q) : eb_V M E pc ls (st) z h Q := by
  obtain ⟨hd, rfl⟩ := hd
  refine eb_V.go (fun l D cs b0 bs p e R s m args below meth c Zf C hE H locs l' hP hL kk => ?_) k
  exact lv_bipush (v := eb_I a) C.1 C.2.1 hd hv (kk H locs l' hP hL)
theorem V_sipush {a : Int} (hd : eb_at M pc pc' (.sipush a) 3) (hv : (Int16.ofInt a).toInt32 = eb_I a) (k : eb_V M E pc' ls (.int (eb_I a) :: st) z h Q) : eb_V M E pc ls (st) z h Q := by
  obtain ⟨hd, rfl⟩ := hd
  refine eb_V.go (fun l D cs b0 bs p e R s m args below meth c Zf C hE H locs l' hP hL kk => ?_) k
  exact lv_sipush (v := eb_I a) C.1 C.2.1 hd hv (kk H locs l' hP hL)
theorem V_lconst {a : Fin 2} {b : Int} (hd : eb_at M pc pc' (.lconst a) 1) (hv : Int64.ofNat (a : Nat) = eb_J b) (k : eb_V M E pc' ls (.long (eb_J b) :: st) z h Q) : eb_V M E pc ls (st) z h Q := by
  obtain ⟨hd, rfl⟩ := hd
  refine eb_V.go (fun l D cs b0 bs p e R s m args below meth c Zf C hE H locs l' hP hL kk => ?_) k
  exact lv_lconst (v := eb_J b) C.1 C.2.1 hd hv (kk H locs l' hP hL)
theorem V_ldc {a : Int} {i : Nat} {v : Int32} (hd : eb_at M pc pc' (.ldc i) 2) (hw : Cond.constant (eb_y M).cls i v ∈ eb_ts) (hv : v = eb_I a) (k : eb_V M E pc' ls (.int (eb_I a) :: st) z h Q) : eb_V M E pc ls (st) z h Q := by
  obtain ⟨hd, rfl⟩ := hd
  refine eb_V.go (fun l D cs b0 bs p e R s m args below meth c Zf C hE H locs l' hP hL kk => ?_) k
  exact lv_ldc (v := eb_I a) C.1 C.2.1 C.2.2.2.1 (by rw [← hv]; exact C.2.2.2.2.1 _ hw) hd (kk H locs l' hP hL)
theorem V_ldc2 {a : Int} {i : Nat} {v : Int64} (hd : eb_at M pc pc' (.ldc2_w i) 3) (hw : Cond.constantLong (eb_y M).cls i v ∈ eb_ts) (hv : v = eb_J a) (k : eb_V M E pc' ls (.long (eb_J a) :: st) z h Q) : eb_V M E pc ls (st) z h Q := by
  obtain ⟨hd, rfl⟩ := hd
  refine eb_V.go (fun l D cs b0 bs p e R s m args below meth c Zf C hE H locs l' hP hL kk => ?_) k
  exact lv_ldc2 (v := eb_J a) C.1 C.2.1 C.2.2.2.1 (by rw [← hv]; exact C.2.2.2.2.1 _ hw) hd (kk H locs l' hP hL)
theorem V_dup {va : Value} (hd : eb_at M pc pc' .dup 1) (hc : va.category = 1) (k : eb_V M E pc' ls (va :: va :: st) z h Q) : eb_V M E pc ls (va :: st) z h Q := by
  obtain ⟨hd, rfl⟩ := hd
  refine eb_V.go (fun l D cs b0 bs p e R s m args below meth c Zf C hE H locs l' hP hL kk => ?_) k
  exact lv_dup C.1 C.2.1 hd (by rw [eb_v_cat]; exact hc) (kk H locs l' hP hL)
theorem V_dup2 {va vb : Value} (hd : eb_at M pc pc' .dup2 1) (hc : va.category = 1) (hc2 : vb.category = 1) (k : eb_V M E pc' ls (va :: vb :: va :: vb :: st) z h Q) : eb_V M E pc ls (va :: vb :: st) z h Q := by
  obtain ⟨hd, rfl⟩ := hd
  refine eb_V.go (fun l D cs b0 bs p e R s m args below meth c Zf C hE H locs l' hP hL kk => ?_) k
  exact lv_dup2_11 C.1 C.2.1 hd (by rw [eb_v_cat]; exact hc) (by rw [eb_v_cat]; exact hc2) (kk H locs l' hP hL)
theorem V_pop {va : Value} (hd : eb_at M pc pc' .pop 1) (hc : va.category = 1) (k : eb_V M E pc' ls (st) z h Q) : eb_V M E pc ls (va :: st) z h Q := by
  obtain ⟨hd, rfl⟩ := hd
  refine eb_V.go (fun l D cs b0 bs p e R s m args below meth c Zf C hE H locs l' hP hL kk => ?_) k
  exact lv_pop C.1 C.2.1 hd (by rw [eb_v_cat]; exact hc) (kk H locs l' hP hL)
theorem V_null  (hd : eb_at M pc pc' .aconst_null 1)  (k : eb_V M E pc' ls (.null :: st) z h Q) : eb_V M E pc ls (st) z h Q := by
  obtain ⟨hd, rfl⟩ := hd
  refine eb_V.go (fun l D cs b0 bs p e R s m args below meth c Zf C hE H locs l' hP hL kk => ?_) k
  exact lv_null C.1 C.2.1 hd (kk H locs l' hP hL)
theorem V_icmp_eq {a b off : Int} {tgt : Nat} (hd : eb_at M pc pc' (.if_icmp .eq off) 3) (ht : (pc : Int) + off = (tgt : Int)) (hr : (-2147483648 ≤ a ∧ a ≤ 2147483647) ∧ (-2147483648 ≤ b ∧ b ≤ 2147483647)) (k1 : a = b → eb_V M E tgt ls st z h Q) (k2 : ¬ a = b → eb_V M E pc' ls st z h Q) : eb_V M E pc ls (.int (eb_I b) :: .int (eb_I a) :: st) z h Q := by
  obtain ⟨hd, rfl⟩ := hd
  intro l D cs b0 bs p e R s m args below meth c Zf C hE hq H locs l' hP hL
  refine lv_icmp_eq (tgt := tgt) C.1 C.2.1 hd ht (fun q => k1 ?_ l D cs b0 bs p e R s m args below meth c Zf C hE hq H locs l' hP hL) (fun q => k2 ?_ l D cs b0 bs p e R s m args below meth c Zf C hE hq H locs l' hP hL)
  · first | exact (eb_I_inj hr.1 hr.2).mp q | (intro e; exact q ((eb_I_inj hr.1 hr.2).mpr e)) 
  · first | (intro e; exact q ((eb_I_inj hr.1 hr.2).mpr e)) | exact (eb_I_inj hr.1 hr.2).mp (Classical.not_not.mp q) | exact (eb_I_inj hr.1 hr.2).mp q
theorem V_if_eq {a  off : Int} {tgt : Nat} (hd : eb_at M pc pc' (.ifCond .eq off) 3) (ht : (pc : Int) + off = (tgt : Int)) (hr : -2147483648 ≤ a ∧ a ≤ 2147483647) (k1 : a = 0 → eb_V M E tgt ls st z h Q) (k2 : ¬ a = 0 → eb_V M E pc' ls st z h Q) : eb_V M E pc ls (.int (eb_I a) :: st) z h Q := by
  obtain ⟨hd, rfl⟩ := hd
  intro l D cs b0 bs p e R s m args below meth c Zf C hE hq H locs l' hP hL
  refine lv_if_eq (tgt := tgt) C.1 C.2.1 hd ht (fun q => k1 ?_ l D cs b0 bs p e R s m args below meth c Zf C hE hq H locs l' hP hL) (fun q => k2 ?_ l D cs b0 bs p e R s m args below meth c Zf C hE hq H locs l' hP hL)
  · first | exact (eb_I_inj hr (by omega : -2147483648 ≤ (0:Int) ∧ (0:Int) ≤ 2147483647)).mp q | (intro e; exact q ((eb_I_inj hr (by omega : -2147483648 ≤ (0:Int) ∧ (0:Int) ≤ 2147483647)).mpr e)) 
  · first | (intro e; exact q ((eb_I_inj hr (by omega : -2147483648 ≤ (0:Int) ∧ (0:Int) ≤ 2147483647)).mpr e)) | exact (eb_I_inj hr (by omega : -2147483648 ≤ (0:Int) ∧ (0:Int) ≤ 2147483647)).mp (Classical.not_not.mp q) | exact (eb_I_inj hr (by omega : -2147483648 ≤ (0:Int) ∧ (0:Int) ≤ 2147483647)).mp q
theorem V_icmp_ne {a b off : Int} {tgt : Nat} (hd : eb_at M pc pc' (.if_icmp .ne off) 3) (ht : (pc : Int) + off = (tgt : Int)) (hr : (-2147483648 ≤ a ∧ a ≤ 2147483647) ∧ (-2147483648 ≤ b ∧ b ≤ 2147483647)) (k1 : a ≠ b → eb_V M E tgt ls st z h Q) (k2 : a = b → eb_V M E pc' ls st z h Q) : eb_V M E pc ls (.int (eb_I b) :: .int (eb_I a) :: st) z h Q := by
  obtain ⟨hd, rfl⟩ := hd
  intro l D cs b0 bs p e R s m args below meth c Zf C hE hq H locs l' hP hL
  refine lv_icmp_ne (tgt := tgt) C.1 C.2.1 hd ht (fun q => k1 ?_ l D cs b0 bs p e R s m args below meth c Zf C hE hq H locs l' hP hL) (fun q => k2 ?_ l D cs b0 bs p e R s m args below meth c Zf C hE hq H locs l' hP hL)
  · first | exact (eb_I_inj hr.1 hr.2).mp q | (intro e; exact q ((eb_I_inj hr.1 hr.2).mpr e)) 
  · first | (intro e; exact q ((eb_I_inj hr.1 hr.2).mpr e)) | exact (eb_I_inj hr.1 hr.2).mp (Classical.not_not.mp q) | exact (eb_I_inj hr.1 hr.2).mp q
theorem V_if_ne {a  off : Int} {tgt : Nat} (hd : eb_at M pc pc' (.ifCond .ne off) 3) (ht : (pc : Int) + off = (tgt : Int)) (hr : -2147483648 ≤ a ∧ a ≤ 2147483647) (k1 : a ≠ 0 → eb_V M E tgt ls st z h Q) (k2 : a = 0 → eb_V M E pc' ls st z h Q) : eb_V M E pc ls (.int (eb_I a) :: st) z h Q := by
  obtain ⟨hd, rfl⟩ := hd
  intro l D cs b0 bs p e R s m args below meth c Zf C hE hq H locs l' hP hL
  refine lv_if_ne (tgt := tgt) C.1 C.2.1 hd ht (fun q => k1 ?_ l D cs b0 bs p e R s m args below meth c Zf C hE hq H locs l' hP hL) (fun q => k2 ?_ l D cs b0 bs p e R s m args below meth c Zf C hE hq H locs l' hP hL)
  · first | exact (eb_I_inj hr (by omega : -2147483648 ≤ (0:Int) ∧ (0:Int) ≤ 2147483647)).mp q | (intro e; exact q ((eb_I_inj hr (by omega : -2147483648 ≤ (0:Int) ∧ (0:Int) ≤ 2147483647)).mpr e)) 
  · first | (intro e; exact q ((eb_I_inj hr (by omega : -2147483648 ≤ (0:Int) ∧ (0:Int) ≤ 2147483647)).mpr e)) | exact (eb_I_inj hr (by omega : -2147483648 ≤ (0:Int) ∧ (0:Int) ≤ 2147483647)).mp (Classical.not_not.mp q) | exact (eb_I_inj hr (by omega : -2147483648 ≤ (0:Int) ∧ (0:Int) ≤ 2147483647)).mp q
theorem V_icmp_lt {a b off : Int} {tgt : Nat} (hd : eb_at M pc pc' (.if_icmp .lt off) 3) (ht : (pc : Int) + off = (tgt : Int)) (hr : (-2147483648 ≤ a ∧ a ≤ 2147483647) ∧ (-2147483648 ≤ b ∧ b ≤ 2147483647)) (k1 : a < b → eb_V M E tgt ls st z h Q) (k2 : ¬ a < b → eb_V M E pc' ls st z h Q) : eb_V M E pc ls (.int (eb_I b) :: .int (eb_I a) :: st) z h Q := by
  obtain ⟨hd, rfl⟩ := hd
  intro l D cs b0 bs p e R s m args below meth c Zf C hE hq H locs l' hP hL
  refine lv_icmp_lt (tgt := tgt) C.1 C.2.1 hd ht (fun q => k1 ?_ l D cs b0 bs p e R s m args below meth c Zf C hE hq H locs l' hP hL) (fun q => k2 ?_ l D cs b0 bs p e R s m args below meth c Zf C hE hq H locs l' hP hL)
  · first | exact (eb_I_lt hr.1 hr.2).mp q | (intro e; exact q ((eb_I_lt hr.1 hr.2).mpr e)) 
  · first | (intro e; exact q ((eb_I_lt hr.1 hr.2).mpr e)) | exact (eb_I_lt hr.1 hr.2).mp (Classical.not_not.mp q) | exact (eb_I_lt hr.1 hr.2).mp q
theorem V_if_lt {a  off : Int} {tgt : Nat} (hd : eb_at M pc pc' (.ifCond .lt off) 3) (ht : (pc : Int) + off = (tgt : Int)) (hr : -2147483648 ≤ a ∧ a ≤ 2147483647) (k1 : a < 0 → eb_V M E tgt ls st z h Q) (k2 : ¬ a < 0 → eb_V M E pc' ls st z h Q) : eb_V M E pc ls (.int (eb_I a) :: st) z h Q := by
  obtain ⟨hd, rfl⟩ := hd
  intro l D cs b0 bs p e R s m args below meth c Zf C hE hq H locs l' hP hL
  refine lv_if_lt (tgt := tgt) C.1 C.2.1 hd ht (fun q => k1 ?_ l D cs b0 bs p e R s m args below meth c Zf C hE hq H locs l' hP hL) (fun q => k2 ?_ l D cs b0 bs p e R s m args below meth c Zf C hE hq H locs l' hP hL)
  · first | exact (eb_I_lt hr (by omega : -2147483648 ≤ (0:Int) ∧ (0:Int) ≤ 2147483647)).mp q | (intro e; exact q ((eb_I_lt hr (by omega : -2147483648 ≤ (0:Int) ∧ (0:Int) ≤ 2147483647)).mpr e)) 
  · first | (intro e; exact q ((eb_I_lt hr (by omega : -2147483648 ≤ (0:Int) ∧ (0:Int) ≤ 2147483647)).mpr e)) | exact (eb_I_lt hr (by omega : -2147483648 ≤ (0:Int) ∧ (0:Int) ≤ 2147483647)).mp (Classical.not_not.mp q) | exact (eb_I_lt hr (by omega : -2147483648 ≤ (0:Int) ∧ (0:Int) ≤ 2147483647)).mp q
theorem V_icmp_ge {a b off : Int} {tgt : Nat} (hd : eb_at M pc pc' (.if_icmp .ge off) 3) (ht : (pc : Int) + off = (tgt : Int)) (hr : (-2147483648 ≤ a ∧ a ≤ 2147483647) ∧ (-2147483648 ≤ b ∧ b ≤ 2147483647)) (k1 : b ≤ a → eb_V M E tgt ls st z h Q) (k2 : ¬ b ≤ a → eb_V M E pc' ls st z h Q) : eb_V M E pc ls (.int (eb_I b) :: .int (eb_I a) :: st) z h Q := by
  obtain ⟨hd, rfl⟩ := hd
  intro l D cs b0 bs p e R s m args below meth c Zf C hE hq H locs l' hP hL
  refine lv_icmp_ge (tgt := tgt) C.1 C.2.1 hd ht (fun q => k1 ?_ l D cs b0 bs p e R s m args below meth c Zf C hE hq H locs l' hP hL) (fun q => k2 ?_ l D cs b0 bs p e R s m args below meth c Zf C hE hq H locs l' hP hL)
  · first | exact (eb_I_le hr.2 hr.1).mp q | (intro e; exact q ((eb_I_le hr.2 hr.1).mpr e)) 
  · first | (intro e; exact q ((eb_I_le hr.2 hr.1).mpr e)) | exact (eb_I_le hr.2 hr.1).mp (Classical.not_not.mp q) | exact (eb_I_le hr.2 hr.1).mp q
theorem V_if_ge {a  off : Int} {tgt : Nat} (hd : eb_at M pc pc' (.ifCond .ge off) 3) (ht : (pc : Int) + off = (tgt : Int)) (hr : -2147483648 ≤ a ∧ a ≤ 2147483647) (k1 : 0 ≤ a → eb_V M E tgt ls st z h Q) (k2 : ¬ 0 ≤ a → eb_V M E pc' ls st z h Q) : eb_V M E pc ls (.int (eb_I a) :: st) z h Q := by
  obtain ⟨hd, rfl⟩ := hd
  intro l D cs b0 bs p e R s m args below meth c Zf C hE hq H locs l' hP hL
  refine lv_if_ge (tgt := tgt) C.1 C.2.1 hd ht (fun q => k1 ?_ l D cs b0 bs p e R s m args below meth c Zf C hE hq H locs l' hP hL) (fun q => k2 ?_ l D cs b0 bs p e R s m args below meth c Zf C hE hq H locs l' hP hL)
  · first | exact (eb_I_le (by omega : -2147483648 ≤ (0:Int) ∧ (0:Int) ≤ 2147483647) hr).mp q | (intro e; exact q ((eb_I_le (by omega : -2147483648 ≤ (0:Int) ∧ (0:Int) ≤ 2147483647) hr).mpr e)) 
  · first | (intro e; exact q ((eb_I_le (by omega : -2147483648 ≤ (0:Int) ∧ (0:Int) ≤ 2147483647) hr).mpr e)) | exact (eb_I_le (by omega : -2147483648 ≤ (0:Int) ∧ (0:Int) ≤ 2147483647) hr).mp (Classical.not_not.mp q) | exact (eb_I_le (by omega : -2147483648 ≤ (0:Int) ∧ (0:Int) ≤ 2147483647) hr).mp q
theorem V_icmp_gt {a b off : Int} {tgt : Nat} (hd : eb_at M pc pc' (.if_icmp .gt off) 3) (ht : (pc : Int) + off = (tgt : Int)) (hr : (-2147483648 ≤ a ∧ a ≤ 2147483647) ∧ (-2147483648 ≤ b ∧ b ≤ 2147483647)) (k1 : b < a → eb_V M E tgt ls st z h Q) (k2 : ¬ b < a → eb_V M E pc' ls st z h Q) : eb_V M E pc ls (.int (eb_I b) :: .int (eb_I a) :: st) z h Q := by
  obtain ⟨hd, rfl⟩ := hd
  intro l D cs b0 bs p e R s m args below meth c Zf C hE hq H locs l' hP hL
  refine lv_icmp_gt (tgt := tgt) C.1 C.2.1 hd ht (fun q => k1 ?_ l D cs b0 bs p e R s m args below meth c Zf C hE hq H locs l' hP hL) (fun q => k2 ?_ l D cs b0 bs p e R s m args below meth c Zf C hE hq H locs l' hP hL)
  · first | exact (eb_I_lt hr.2 hr.1).mp q | (intro e; exact q ((eb_I_lt hr.2 hr.1).mpr e)) 
  · first | (intro e; exact q ((eb_I_lt hr.2 hr.1).mpr e)) | exact (eb_I_lt hr.2 hr.1).mp (Classical.not_not.mp q) | exact (eb_I_lt hr.2 hr.1).mp q
theorem V_if_gt {a  off : Int} {tgt : Nat} (hd : eb_at M pc pc' (.ifCond .gt off) 3) (ht : (pc : Int) + off = (tgt : Int)) (hr : -2147483648 ≤ a ∧ a ≤ 2147483647) (k1 : 0 < a → eb_V M E tgt ls st z h Q) (k2 : ¬ 0 < a → eb_V M E pc' ls st z h Q) : eb_V M E pc ls (.int (eb_I a) :: st) z h Q := by
  obtain ⟨hd, rfl⟩ := hd
  intro l D cs b0 bs p e R s m args below meth c Zf C hE hq H locs l' hP hL
  refine lv_if_gt (tgt := tgt) C.1 C.2.1 hd ht (fun q => k1 ?_ l D cs b0 bs p e R s m args below meth c Zf C hE hq H locs l' hP hL) (fun q => k2 ?_ l D cs b0 bs p e R s m args below meth c Zf C hE hq H locs l' hP hL)
  · first | exact (eb_I_lt (by omega : -2147483648 ≤ (0:Int) ∧ (0:Int) ≤ 2147483647) hr).mp q | (intro e; exact q ((eb_I_lt (by omega : -2147483648 ≤ (0:Int) ∧ (0:Int) ≤ 2147483647) hr).mpr e)) 
  · first | (intro e; exact q ((eb_I_lt (by omega : -2147483648 ≤ (0:Int) ∧ (0:Int) ≤ 2147483647) hr).mpr e)) | exact (eb_I_lt (by omega : -2147483648 ≤ (0:Int) ∧ (0:Int) ≤ 2147483647) hr).mp (Classical.not_not.mp q) | exact (eb_I_lt (by omega : -2147483648 ≤ (0:Int) ∧ (0:Int) ≤ 2147483647) hr).mp q
theorem V_icmp_le {a b off : Int} {tgt : Nat} (hd : eb_at M pc pc' (.if_icmp .le off) 3) (ht : (pc : Int) + off = (tgt : Int)) (hr : (-2147483648 ≤ a ∧ a ≤ 2147483647) ∧ (-2147483648 ≤ b ∧ b ≤ 2147483647)) (k1 : a ≤ b → eb_V M E tgt ls st z h Q) (k2 : ¬ a ≤ b → eb_V M E pc' ls st z h Q) : eb_V M E pc ls (.int (eb_I b) :: .int (eb_I a) :: st) z h Q := by
  obtain ⟨hd, rfl⟩ := hd
  intro l D cs b0 bs p e R s m args below meth c Zf C hE hq H locs l' hP hL
  refine lv_icmp_le (tgt := tgt) C.1 C.2.1 hd ht (fun q => k1 ?_ l D cs b0 bs p e R s m args below meth c Zf C hE hq H locs l' hP hL) (fun q => k2 ?_ l D cs b0 bs p e R s m args below meth c Zf C hE hq H locs l' hP hL)
  · first | exact (eb_I_le hr.1 hr.2).mp q | (intro e; exact q ((eb_I_le hr.1 hr.2).mpr e)) 
  · first | (intro e; exact q ((eb_I_le hr.1 hr.2).mpr e)) | exact (eb_I_le hr.1 hr.2).mp (Classical.not_not.mp q) | exact (eb_I_le hr.1 hr.2).mp q
theorem V_if_le {a  off : Int} {tgt : Nat} (hd : eb_at M pc pc' (.ifCond .le off) 3) (ht : (pc : Int) + off = (tgt : Int)) (hr : -2147483648 ≤ a ∧ a ≤ 2147483647) (k1 : a ≤ 0 → eb_V M E tgt ls st z h Q) (k2 : ¬ a ≤ 0 → eb_V M E pc' ls st z h Q) : eb_V M E pc ls (.int (eb_I a) :: st) z h Q := by
  obtain ⟨hd, rfl⟩ := hd
  intro l D cs b0 bs p e R s m args below meth c Zf C hE hq H locs l' hP hL
  refine lv_if_le (tgt := tgt) C.1 C.2.1 hd ht (fun q => k1 ?_ l D cs b0 bs p e R s m args below meth c Zf C hE hq H locs l' hP hL) (fun q => k2 ?_ l D cs b0 bs p e R s m args below meth c Zf C hE hq H locs l' hP hL)
  · first | exact (eb_I_le hr (by omega : -2147483648 ≤ (0:Int) ∧ (0:Int) ≤ 2147483647)).mp q | (intro e; exact q ((eb_I_le hr (by omega : -2147483648 ≤ (0:Int) ∧ (0:Int) ≤ 2147483647)).mpr e)) 
  · first | (intro e; exact q ((eb_I_le hr (by omega : -2147483648 ≤ (0:Int) ∧ (0:Int) ≤ 2147483647)).mpr e)) | exact (eb_I_le hr (by omega : -2147483648 ≤ (0:Int) ∧ (0:Int) ≤ 2147483647)).mp (Classical.not_not.mp q) | exact (eb_I_le hr (by omega : -2147483648 ≤ (0:Int) ∧ (0:Int) ≤ 2147483647)).mp q
theorem V_goto {off : Int} {tgt : Nat} (hd : eb_at M pc pc' (.goto off) 3) (ht : (pc : Int) + off = (tgt : Int)) (k : eb_V M E tgt ls st z h Q) : eb_V M E pc ls st z h Q := by
  obtain ⟨hd, rfl⟩ := hd
  refine eb_V.go (fun l D cs b0 bs p e R s m args below meth c Zf C hE H locs l' hP hL kk => ?_) k
  exact lv_goto (tgt := tgt) C.1 C.2.1 hd ht (kk H locs l' hP hL)
end EBR
end
section
def eb_ok (ls : List Value) (i : Nat) : Bool := match i with
  | 0 => true
  | j + 1 => match ls[j]? with
    | some (.long _) => false
    | some (.double b) => b == 0
    | _ => true
theorem eb_s0 {α : Type} {a v : α} {l : List α} : (a :: l).set 0 v = v :: l := rfl
theorem eb_sS {α : Type} {a v : α} {l l' : List α} {k : Nat} (h : l.set k v = l') : (a :: l).set (k + 1) v = a :: l' := by rw [← h]; rfl
def eb_lv0 (b0 bs nL : Nat) (ls : List Value) : List (Nat × Value) := (List.range nL).filterMap (fun k => match ls[k]? with
  | some v => if v = eb_no then none else some (k, eb_v b0 bs v)
  | none => none)
theorem eb_lv0_has {b0 bs nL : Nat} {ls : List Value} {l' : Array Slot} (hL : eb_L b0 bs nL ls l') : lv_has l' nL (eb_lv0 b0 bs nL ls) := by
  refine ⟨hL.1, hL.2.1, fun q hq => ?_⟩
  obtain ⟨k, hk, hf⟩ := List.mem_filterMap.mp hq
  cases hv : ls[k]? with
  | none => simp [hv] at hf
  | some v =>
    simp only [hv] at hf
    by_cases e : v = eb_no
    · simp [e] at hf
    · rw [if_neg e] at hf
      cases hf
      exact hL.2.2.2 k v hv e
theorem eb_lv0_in {b0 bs nL : Nat} {ls : List Value} {k : Nat} {v : Value} (hk : k < nL) (hv : ls[k]? = some v) (hn : v ≠ eb_no) : (k, eb_v b0 bs v) ∈ eb_lv0 b0 bs nL ls :=
  List.mem_filterMap.mpr ⟨k, List.mem_range.mpr hk, by simp only [hv]; rw [if_neg hn]⟩
theorem eb_okn {ls : List Value} {i k : Nat} {v : Value} (hok : eb_ok ls i = true) (hk : k + 1 = i) (hv : ls[k]? = some v) (hn : v ≠ eb_no) : ¬ v.category = 2 := by
  subst hk
  intro hc
  cases v <;> simp [Value.category] at hc
  · simp [eb_ok, hv] at hok
  · simp only [eb_ok, hv, beq_iff_eq] at hok
    exact hn (by rw [hok])
theorem eb_L1 {b0 bs nL : Nat} {ls : List Value} {l'' : Array Slot} {i : Nat} {v : Value} (hlen : ls.length = nL) (hi : i < nL) (hok : eb_ok ls i = true)
    (h : lv_has l'' nL ((i, eb_v b0 bs v) :: (eb_lv0 b0 bs nL ls).filter (fun q => !(q.1 == i) && !(q.1 + 1 == i && q.2.category == 2)))) : eb_L b0 bs nL (ls.set i v) l'' := by
  refine ⟨h.1, h.2.1, by simp [hlen], fun k w hk hw => ?_⟩
  by_cases e : k = i
  · subst e
    rw [List.getElem?_set_self (by omega)] at hk
    cases hk
    exact h.2.2 _ List.mem_cons_self
  · rw [List.getElem?_set_ne (fun q => e q.symm)] at hk
    have hkl : k < nL := by rw [← hlen]; exact (List.getElem?_eq_some_iff.mp hk).1
    refine h.2.2 (k, eb_v b0 bs w) (List.mem_cons_of_mem _ (List.mem_filter.mpr ⟨eb_lv0_in hkl hk hw, ?_⟩))
    simp only [eb_v_cat, Bool.and_eq_true, Bool.not_eq_true', beq_eq_false_iff_ne, ne_eq, Bool.and_eq_false_iff]
    refine ⟨e, ?_⟩
    by_cases e2 : k + 1 = i
    · exact Or.inr (eb_okn hok e2 hk hw)
    · exact Or.inl e2
theorem eb_L2 {b0 bs nL : Nat} {ls : List Value} {l'' : Array Slot} {i : Nat} {v : Value} (hlen : ls.length = nL) (hi : i + 1 < nL) (hok : eb_ok ls i = true)
    (h : lv_has l'' nL ((i, eb_v b0 bs v) :: (eb_lv0 b0 bs nL ls).filter (fun q => !(q.1 == i) && (!(q.1 == i + 1) && !(q.1 + 1 == i && q.2.category == 2))))) : eb_L b0 bs nL ((ls.set i v).set (i + 1) eb_no) l'' := by
  refine ⟨h.1, h.2.1, by simp [hlen], fun k w hk hw => ?_⟩
  by_cases e1 : k = i + 1
  · subst e1
    rw [List.getElem?_set_self (by simp; omega)] at hk
    cases hk
    exact absurd rfl hw
  · rw [List.getElem?_set_ne (fun q => e1 q.symm)] at hk
    by_cases e : k = i
    · subst e
      rw [List.getElem?_set_self (by omega)] at hk
      cases hk
      exact h.2.2 _ List.mem_cons_self
    · rw [List.getElem?_set_ne (fun q => e q.symm)] at hk
      have hkl : k < nL := by rw [← hlen]; exact (List.getElem?_eq_some_iff.mp hk).1
      refine h.2.2 (k, eb_v b0 bs w) (List.mem_cons_of_mem _ (List.mem_filter.mpr ⟨eb_lv0_in hkl hk hw, ?_⟩))
      simp only [eb_v_cat, Bool.and_eq_true, Bool.not_eq_true', beq_eq_false_iff_ne, ne_eq, Bool.and_eq_false_iff]
      refine ⟨e, e1, ?_⟩
      by_cases e2 : k + 1 = i
      · exact Or.inr (eb_okn hok e2 hk hw)
      · exact Or.inl e2
section EBLo
variable {M : eb_M} {E : Nat → Nat → State → Prop} {pc pc' : Nat} {ls ls' st : List Value} {z : eb_Z} {h : eb_H} {Q : Nat → List Value → List Value → eb_Z → eb_H → Prop}
theorem V_iload_n {j : Fin 4} {i : Nat} {x : Int32} (hd : eb_at M pc pc' (.iload_n j) 1) (hi : (j : Nat) = i) (hl : ls[i]? = some (.int x)) (k : eb_V M E pc' ls (.int x :: st) z h Q) : eb_V M E pc ls st z h Q := by
  obtain ⟨hd, rfl⟩ := hd
  refine eb_V.go (fun l D cs b0 bs p e R s m args below meth c Zf C hE H locs l' hP hL kk => ?_) k
  exact lv_iload_n C.1 C.2.1 hd hi (hL.2.2.2 i _ hl (by intro q; cases q)) (kk H locs l' hP hL)
theorem V_iload {i : Nat} {x : Int32} (hd : eb_at M pc pc' (.iload i) 2) (hl : ls[i]? = some (.int x)) (k : eb_V M E pc' ls (.int x :: st) z h Q) : eb_V M E pc ls st z h Q := by
  obtain ⟨hd, rfl⟩ := hd
  refine eb_V.go (fun l D cs b0 bs p e R s m args below meth c Zf C hE H locs l' hP hL kk => ?_) k
  exact lv_iload C.1 C.2.1 hd (hL.2.2.2 i _ hl (by intro q; cases q)) (kk H locs l' hP hL)
theorem V_istore_n {j : Fin 4} {i : Nat} {x : Int32} (hd : eb_at M pc pc' (.istore_n j) 1) (hi : (j : Nat) = i) (hn : i < ls.length) (hok : eb_ok ls i = true) (hs : ls.set i (.int x) = ls') (k : eb_V M E pc' ls' st z h Q) : eb_V M E pc ls (.int x :: st) z h Q := by
  obtain ⟨hd, rfl⟩ := hd
  refine eb_V.go (fun l D cs b0 bs p e R s m args below meth c Zf C hE H locs l' hP hL kk => ?_) k
  exact lv_istore_n C.1 C.2.1 hd hi (eb_lv0_has hL) (by rw [← hL.2.2.1]; exact hn) rfl (fun l2 hl2 => kk H locs l2 hP (by rw [← hs]; exact eb_L1 (v := .int x) hL.2.2.1 (by rw [← hL.2.2.1]; exact hn) hok hl2))
theorem V_istore {i : Nat} {x : Int32} (hd : eb_at M pc pc' (.istore i) 2) (hn : i < ls.length) (hok : eb_ok ls i = true) (hs : ls.set i (.int x) = ls') (k : eb_V M E pc' ls' st z h Q) : eb_V M E pc ls (.int x :: st) z h Q := by
  obtain ⟨hd, rfl⟩ := hd
  refine eb_V.go (fun l D cs b0 bs p e R s m args below meth c Zf C hE H locs l' hP hL kk => ?_) k
  exact lv_istore C.1 C.2.1 hd (eb_lv0_has hL) (by rw [← hL.2.2.1]; exact hn) rfl (fun l2 hl2 => kk H locs l2 hP (by rw [← hs]; exact eb_L1 (v := .int x) hL.2.2.1 (by rw [← hL.2.2.1]; exact hn) hok hl2))
theorem V_lload_n {j : Fin 4} {i : Nat} {x : Int64} (hd : eb_at M pc pc' (.lload_n j) 1) (hi : (j : Nat) = i) (hl : ls[i]? = some (.long x)) (k : eb_V M E pc' ls (.long x :: st) z h Q) : eb_V M E pc ls st z h Q := by
  obtain ⟨hd, rfl⟩ := hd
  refine eb_V.go (fun l D cs b0 bs p e R s m args below meth c Zf C hE H locs l' hP hL kk => ?_) k
  exact lv_lload_n C.1 C.2.1 hd hi (hL.2.2.2 i _ hl (by intro q; cases q)) (kk H locs l' hP hL)
theorem V_lload {i : Nat} {x : Int64} (hd : eb_at M pc pc' (.lload i) 2) (hl : ls[i]? = some (.long x)) (k : eb_V M E pc' ls (.long x :: st) z h Q) : eb_V M E pc ls st z h Q := by
  obtain ⟨hd, rfl⟩ := hd
  refine eb_V.go (fun l D cs b0 bs p e R s m args below meth c Zf C hE H locs l' hP hL kk => ?_) k
  exact lv_lload C.1 C.2.1 hd (hL.2.2.2 i _ hl (by intro q; cases q)) (kk H locs l' hP hL)
theorem V_lstore_n {j : Fin 4} {i : Nat} {x : Int64} (hd : eb_at M pc pc' (.lstore_n j) 1) (hi : (j : Nat) = i) (hn : i + 1 < ls.length) (hok : eb_ok ls i = true) {ls1 : List Value} (hs : ls.set i (.long x) = ls1) (hs2 : ls1.set (i + 1) eb_no = ls') (k : eb_V M E pc' ls' st z h Q) : eb_V M E pc ls (.long x :: st) z h Q := by
  obtain ⟨hd, rfl⟩ := hd
  refine eb_V.go (fun l D cs b0 bs p e R s m args below meth c Zf C hE H locs l' hP hL kk => ?_) k
  exact lv_lstore_n C.1 C.2.1 hd hi (eb_lv0_has hL) (by rw [← hL.2.2.1]; exact hn) rfl (fun l2 hl2 => kk H locs l2 hP (by rw [← hs2, ← hs]; exact eb_L2 (v := .long x) hL.2.2.1 (by rw [← hL.2.2.1]; exact hn) hok hl2))
theorem V_aload_n {j : Fin 4} {i : Nat} {x : Nat} (hd : eb_at M pc pc' (.aload_n j) 1) (hi : (j : Nat) = i) (hl : ls[i]? = some (.ref x)) (k : eb_V M E pc' ls (.ref x :: st) z h Q) : eb_V M E pc ls st z h Q := by
  obtain ⟨hd, rfl⟩ := hd
  refine eb_V.go (fun l D cs b0 bs p e R s m args below meth c Zf C hE H locs l' hP hL kk => ?_) k
  exact lv_aload_n C.1 C.2.1 hd hi (hL.2.2.2 i _ hl (by intro q; cases q)) (kk H locs l' hP hL)
theorem V_aload {i : Nat} {x : Nat} (hd : eb_at M pc pc' (.aload i) 2) (hl : ls[i]? = some (.ref x)) (k : eb_V M E pc' ls (.ref x :: st) z h Q) : eb_V M E pc ls st z h Q := by
  obtain ⟨hd, rfl⟩ := hd
  refine eb_V.go (fun l D cs b0 bs p e R s m args below meth c Zf C hE H locs l' hP hL kk => ?_) k
  exact lv_aload C.1 C.2.1 hd (hL.2.2.2 i _ hl (by intro q; cases q)) (kk H locs l' hP hL)
theorem V_astore_n {j : Fin 4} {i : Nat} {x : Nat} (hd : eb_at M pc pc' (.astore_n j) 1) (hi : (j : Nat) = i) (hn : i < ls.length) (hok : eb_ok ls i = true) (hs : ls.set i (.ref x) = ls') (k : eb_V M E pc' ls' st z h Q) : eb_V M E pc ls (.ref x :: st) z h Q := by
  obtain ⟨hd, rfl⟩ := hd
  refine eb_V.go (fun l D cs b0 bs p e R s m args below meth c Zf C hE H locs l' hP hL kk => ?_) k
  exact lv_astore_n C.1 C.2.1 hd hi (eb_lv0_has hL) (by rw [← hL.2.2.1]; exact hn) rfl (fun l2 hl2 => kk H locs l2 hP (by rw [← hs]; exact eb_L1 (v := .ref x) hL.2.2.1 (by rw [← hL.2.2.1]; exact hn) hok hl2))
theorem V_astore {i : Nat} {x : Nat} (hd : eb_at M pc pc' (.astore i) 2) (hn : i < ls.length) (hok : eb_ok ls i = true) (hs : ls.set i (.ref x) = ls') (k : eb_V M E pc' ls' st z h Q) : eb_V M E pc ls (.ref x :: st) z h Q := by
  obtain ⟨hd, rfl⟩ := hd
  refine eb_V.go (fun l D cs b0 bs p e R s m args below meth c Zf C hE H locs l' hP hL kk => ?_) k
  exact lv_astore C.1 C.2.1 hd (eb_lv0_has hL) (by rw [← hL.2.2.1]; exact hn) rfl (fun l2 hl2 => kk H locs l2 hP (by rw [← hs]; exact eb_L1 (v := .ref x) hL.2.2.1 (by rw [← hL.2.2.1]; exact hn) hok hl2))
theorem V_iinc {i : Nat} {a b : Int} (hd : eb_at M pc pc' (.iinc i b) 3) (hl : ls[i]? = some (.int (eb_I a))) (hok : eb_ok ls i = true) (hs : ls.set i (.int (eb_I (a + b))) = ls') (k : eb_V M E pc' ls' st z h Q) : eb_V M E pc ls st z h Q := by
  obtain ⟨hd, rfl⟩ := hd
  refine eb_V.go (fun l D cs b0 bs p e R s m args below meth c Zf C hE H locs l' hP hL kk => ?_) k
  have hn : i < ls.length := (List.getElem?_eq_some_iff.mp hl).1
  have hn2 : i < eb_nl M := by rw [← hL.2.2.1]; exact hn
  obtain ⟨j, hj⟩ := List.getElem?_of_mem (eb_lv0_in (b0 := b0) (bs := bs) hn2 hl (by intro q; cases q))
  exact lv_iinc (x := eb_I a) (v := eb_I (a + b)) C.1 C.2.1 hd (eb_lv0_has hL) hj (eb_I_add a b) hn2 rfl (fun l2 hl2 => kk H locs l2 hP (by rw [← hs]; exact eb_L1 (v := .int (eb_I (a + b))) hL.2.2.1 hn2 hok hl2))
end EBLo
end
section
theorem eb_mem {w : Cond} (i : Nat) (h : lw_tbl[i]? = some w) (hg : goodWord w = true) : w ∈ eb_ts := List.mem_filter.mpr ⟨List.mem_of_getElem? h, hg⟩
theorem eb_P.lt {D : va_G} {cs : Nat → ClassId} {b0 bs : Nat} {s : State} {z : eb_Z} {h : eb_H} {H : Heap} {locs : List Loc} (hP : eb_P D cs b0 bs s z h H locs) {a : Nat} {e : va_E} (he : h a = e) (hne : e ≠ .inr (99, [])) : a < z.1 := by
  rcases Nat.lt_or_ge a z.1 with q | q
  · exact q
  · exact absurd (he.symm.trans (hP.2.2.2.2 a q)) hne
theorem eb_wf.up {n : Nat} {h : eb_H} {a : Nat} {e : va_E} (hw : eb_wf n h) (ha : a < n) : eb_wf n (eb_up h a e) := fun k hk => by
  rw [eb_up, if_neg (by omega)]
  exact hw k hk
theorem eb_P.w {D : va_G} {cs : Nat → ClassId} {b0 bs : Nat} {s : State} {z : eb_Z} {h : eb_H} {H : Heap} {locs : List Loc} (hP : eb_P D cs b0 bs s z h H locs) {a : Nat} {e : va_E} (he : h a = e) (hne : e ≠ .inr (99, [])) : (eb_w cs b0 bs z.1 h)[a]? = some (bs + a, eb_e cs b0 bs e) := by
  rw [eb_w_at (hP.lt he hne), he]
theorem eb_P.up {D : va_G} {cs : Nat → ClassId} {b0 bs : Nat} {s : State} {z : eb_Z} {h : eb_H} {H H1 : Heap} {locs locs1 : List Loc} (hP : eb_P D cs b0 bs s z h H locs) {a : Nat} {e0 e : va_E} (he : h a = e0) (hne : e0 ≠ .inr (99, []))
    (h1 : va_P D vwCl ((eb_w cs b0 bs z.1 h).set a (bs + a, eb_e cs b0 bs e)) H1) (h2 : va_S (fun q => bs ≤ q) s.heap H1 locs1) : eb_P D cs b0 bs s z (eb_up h a e) H1 locs1 := by
  rw [eb_w_set (hP.lt he hne)] at h1
  exact ⟨h1, hP.2.1, h2, hP.2.2.2.1, hP.2.2.2.2.up (hP.lt he hne)⟩
/-- what the tables say of the classes -/
def eb_cok (q : vw_C) : Prop := (∀ k, k < q.2.2 → u_lay q.1 q.2.1 k ∈ eb_ts) ∧ ∃ ty : Nat → FieldType, (∀ k, k < q.2.2 → parseFieldDescriptor (q.2.1 k).2.2.1 = some (ty k)) ∧ (∀ a, a < q.2.2 → ∀ b, b < q.2.2 → a ≠ b → (q.2.1 a).2.1 ≠ (q.2.1 b).2.1)
theorem eb_inX0 : ∀ k, k < 3 → u_lay RX0 TX0 k ∈ eb_ts
  | 0, _ => eb_mem 181 (by decide +kernel) rfl
  | 1, _ => eb_mem 183 (by decide +kernel) rfl
  | 2, _ => eb_mem 185 (by decide +kernel) rfl
  | k + 3, h => absurd h (by omega)
theorem eb_inX1 : ∀ k, k < 1 → u_lay RX1 TX1 k ∈ eb_ts
  | 0, _ => eb_mem 166 (by decide +kernel) rfl
  | k + 1, h => absurd h (by omega)
theorem eb_inX2 : ∀ k, k < 3 → u_lay RX2 TX2 k ∈ eb_ts
  | 0, _ => eb_mem 284 (by decide +kernel) rfl
  | 1, _ => eb_mem 286 (by decide +kernel) rfl
  | 2, _ => eb_mem 288 (by decide +kernel) rfl
  | k + 3, h => absurd h (by omega)
theorem eb_inX3 : ∀ k, k < 13 → u_lay RX3 TX3 k ∈ eb_ts
  | 0, _ => eb_mem 216 (by decide +kernel) rfl
  | 1, _ => eb_mem 218 (by decide +kernel) rfl
  | 2, _ => eb_mem 220 (by decide +kernel) rfl
  | 3, _ => eb_mem 222 (by decide +kernel) rfl
  | 4, _ => eb_mem 224 (by decide +kernel) rfl
  | 5, _ => eb_mem 226 (by decide +kernel) rfl
  | 6, _ => eb_mem 228 (by decide +kernel) rfl
  | 7, _ => eb_mem 230 (by decide +kernel) rfl
  | 8, _ => eb_mem 232 (by decide +kernel) rfl
  | 9, _ => eb_mem 234 (by decide +kernel) rfl
  | 10, _ => eb_mem 236 (by decide +kernel) rfl
  | 11, _ => eb_mem 238 (by decide +kernel) rfl
  | 12, _ => eb_mem 240 (by decide +kernel) rfl
  | k + 13, h => absurd h (by omega)
theorem eb_inX4 : ∀ k, k < 3 → u_lay RX4 TX4 k ∈ eb_ts
  | 0, _ => eb_mem 151 (by decide +kernel) rfl
  | 1, _ => eb_mem 153 (by decide +kernel) rfl
  | 2, _ => eb_mem 155 (by decide +kernel) rfl
  | k + 3, h => absurd h (by omega)
theorem eb_inX6 : ∀ k, k < 6 → u_lay RX6 TX6 k ∈ eb_ts
  | 0, _ => eb_mem 258 (by decide +kernel) rfl
  | 1, _ => eb_mem 260 (by decide +kernel) rfl
  | 2, _ => eb_mem 262 (by decide +kernel) rfl
  | 3, _ => eb_mem 264 (by decide +kernel) rfl
  | 4, _ => eb_mem 266 (by decide +kernel) rfl
  | 5, _ => eb_mem 268 (by decide +kernel) rfl
  | k + 6, h => absurd h (by omega)
theorem eb_inX7 : ∀ k, k < 6 → u_lay RX7 TX7 k ∈ eb_ts
  | 0, _ => eb_mem 97 (by decide +kernel) rfl
  | 1, _ => eb_mem 99 (by decide +kernel) rfl
  | 2, _ => eb_mem 101 (by decide +kernel) rfl
  | 3, _ => eb_mem 103 (by decide +kernel) rfl
  | 4, _ => eb_mem 105 (by decide +kernel) rfl
  | 5, _ => eb_mem 107 (by decide +kernel) rfl
  | k + 6, h => absurd h (by omega)
theorem eb_inX8 : ∀ k, k < 5 → u_lay RX8 TX8 k ∈ eb_ts
  | 0, _ => eb_mem 126 (by decide +kernel) rfl
  | 1, _ => eb_mem 128 (by decide +kernel) rfl
  | 2, _ => eb_mem 130 (by decide +kernel) rfl
  | 3, _ => eb_mem 132 (by decide +kernel) rfl
  | 4, _ => eb_mem 134 (by decide +kernel) rfl
  | k + 5, h => absurd h (by omega)
theorem eb_inX9 : ∀ k, k < 9 → u_lay RX9 TX9 k ∈ eb_ts
  | 0, _ => eb_mem 353 (by decide +kernel) rfl
  | 1, _ => eb_mem 355 (by decide +kernel) rfl
  | 2, _ => eb_mem 357 (by decide +kernel) rfl
  | 3, _ => eb_mem 359 (by decide +kernel) rfl
  | 4, _ => eb_mem 361 (by decide +kernel) rfl
  | 5, _ => eb_mem 363 (by decide +kernel) rfl
  | 6, _ => eb_mem 365 (by decide +kernel) rfl
  | 7, _ => eb_mem 367 (by decide +kernel) rfl
  | 8, _ => eb_mem 369 (by decide +kernel) rfl
  | k + 9, h => absurd h (by omega)
theorem eb_inX10 : ∀ k, k < 29 → u_lay RX10 TX10 k ∈ eb_ts
  | 0, _ => eb_mem 733 (by decide +kernel) rfl
  | 1, _ => eb_mem 735 (by decide +kernel) rfl
  | 2, _ => eb_mem 737 (by decide +kernel) rfl
  | 3, _ => eb_mem 739 (by decide +kernel) rfl
  | 4, _ => eb_mem 741 (by decide +kernel) rfl
  | 5, _ => eb_mem 743 (by decide +kernel) rfl
  | 6, _ => eb_mem 745 (by decide +kernel) rfl
  | 7, _ => eb_mem 747 (by decide +kernel) rfl
  | 8, _ => eb_mem 749 (by decide +kernel) rfl
  | 9, _ => eb_mem 751 (by decide +kernel) rfl
  | 10, _ => eb_mem 753 (by decide +kernel) rfl
  | 11, _ => eb_mem 755 (by decide +kernel) rfl
  | 12, _ => eb_mem 757 (by decide +kernel) rfl
  | 13, _ => eb_mem 759 (by decide +kernel) rfl
  | 14, _ => eb_mem 761 (by decide +kernel) rfl
  | 15, _ => eb_mem 763 (by decide +kernel) rfl
  | 16, _ => eb_mem 765 (by decide +kernel) rfl
  | 17, _ => eb_mem 767 (by decide +kernel) rfl
  | 18, _ => eb_mem 769 (by decide +kernel) rfl
  | 19, _ => eb_mem 771 (by decide +kernel) rfl
  | 20, _ => eb_mem 773 (by decide +kernel) rfl
  | 21, _ => eb_mem 775 (by decide +kernel) rfl
  | 22, _ => eb_mem 777 (by decide +kernel) rfl
  | 23, _ => eb_mem 779 (by decide +kernel) rfl
  | 24, _ => eb_mem 781 (by decide +kernel) rfl
  | 25, _ => eb_mem 783 (by decide +kernel) rfl
  | 26, _ => eb_mem 785 (by decide +kernel) rfl
  | 27, _ => eb_mem 787 (by decide +kernel) rfl
  | 28, _ => eb_mem 789 (by decide +kernel) rfl
  | k + 29, h => absurd h (by omega)
theorem eb_cls {ci : Nat} {q : vw_C} (h : vwCl[ci]? = some q) : eb_cok q := by
  match ci, h with
  | 0, h => cases h; exact ⟨eb_inX0, tyX0, tyX0_ok, nmX0⟩
  | 1, h => cases h; exact ⟨eb_inX1, tyX1, tyX1_ok, nmX1⟩
  | 2, h => cases h; exact ⟨eb_inX2, tyX2, tyX2_ok, nmX2⟩
  | 3, h => cases h; exact ⟨eb_inX3, tyX3, tyX3_ok, nmX3⟩
  | 4, h => cases h; exact ⟨eb_inX4, tyX4, tyX4_ok, nmX4⟩
  | 5, h => cases h; exact ⟨eb_inX6, tyX6, tyX6_ok, nmX6⟩
  | 6, h => cases h; exact ⟨eb_inX7, tyX7, tyX7_ok, nmX7⟩
  | 7, h => cases h; exact ⟨eb_inX8, tyX8, tyX8_ok, nmX8⟩
  | 8, h => cases h; exact ⟨eb_inX9, tyX9, tyX9_ok, nmX9⟩
  | 9, h => cases h; exact ⟨eb_inX10, tyX10, tyX10_ok, nmX10⟩
  | ci + 10, h => simp [vwCl] at h
theorem eb_cls_in {ci : Nat} {q : vw_C} (h : vwCl[ci]? = some q) : ∀ w ∈ u_ws q.1 q.2.1 q.2.2, w ∈ eb_ts := by
  intro w hw
  obtain ⟨k, hk, rfl⟩ := List.mem_map.mp hw
  exact (eb_cls h).1 k (List.mem_range.mp hk)
def eb_gf (M : eb_M) (pc pc' ci k : Nat) : Prop := ∃ (idx : Nat) (q : vw_C), decode (eb_code M) pc = .ok (.getfield idx, 3) ∧ pc + 3 = pc' ∧ vwCl[ci]? = some q ∧ k < q.2.2 ∧ Cond.fieldLink (eb_y M).cls idx (q.2.1 k).1 (q.2.1 k).2.1 (q.2.1 k).2.2.1 ∈ eb_ts
def eb_pf (M : eb_M) (pc pc' ci k : Nat) (fin : Bool) (ty : FieldType) : Prop := ∃ (idx : Nat) (q : vw_C), decode (eb_code M) pc = .ok (.putfield idx, 3) ∧ pc + 3 = pc' ∧ vwCl[ci]? = some q ∧ k < q.2.2 ∧ Cond.fieldLink (eb_y M).cls idx (q.2.1 k).1 (q.2.1 k).2.1 (q.2.1 k).2.2.1 ∈ eb_ts ∧ (q.2.1 k).2.2.2 = fin ∧ parseFieldDescriptor (q.2.1 k).2.2.1 = some ty ∧ (fin = true → (eb_y M).name = "<init>" ∧ (q.2.1 k).1 = (eb_y M).cls)
def eb_fit (ty : FieldType) (v : Value) : Prop := ∀ b0 bs, narrow ty (eb_v b0 bs v) = eb_v b0 bs v ∧ fits ty (eb_v b0 bs v) = true
theorem eb_fitI {x : Int32} : eb_fit .int (.int x) := fun _ _ => ⟨rfl, rfl⟩
theorem eb_fitJ {x : Int64} : eb_fit .long (.long x) := fun _ _ => ⟨rfl, rfl⟩
theorem eb_fitZ {a : Int} (h : a = 0 ∨ a = 1) : eb_fit .boolean (.int (eb_I a)) := fun _ _ => by rcases h with rfl | rfl <;> exact ⟨rfl, rfl⟩
theorem eb_fitA {t : FieldType} {k : Nat} : eb_fit (.array t) (.ref k) := fun _ _ => ⟨rfl, rfl⟩
theorem eb_fitO {n : String} {k : Nat} : eb_fit (.object n) (.ref k) := fun _ _ => ⟨rfl, rfl⟩
section EBF
variable {M : eb_M} {E : Nat → Nat → State → Prop} {pc pc' : Nat} {ls st : List Value} {z : eb_Z} {h : eb_H} {Q : Nat → List Value → List Value → eb_Z → eb_H → Prop}
theorem V_eqI {a b : Int} (he : a = b) (k : eb_V M E pc ls (.int (eb_I b) :: st) z h Q) : eb_V M E pc ls (.int (eb_I a) :: st) z h Q := by rw [he]; exact k
theorem V_eqh {h1 : eb_H} (he : h = h1) (k : eb_V M E pc ls st z h1 Q) : eb_V M E pc ls st z h Q := by rw [he]; exact k
theorem V_getf {ci k a : Nat} {fs : List Value} {v : Value} (hd : eb_gf M pc pc' ci k) (he : h a = .inr (ci, fs)) (hv : fs[k]? = some v) (kk : eb_V M E pc' ls (v :: st) z h Q) : eb_V M E pc ls (.ref a :: st) z h Q := by
  obtain ⟨idx, q, hd, rfl, hq, hk, hw⟩ := hd
  refine eb_V.go (fun l D cs b0 bs p e R s m args below meth c Zf C hE H locs l' hP hL kk => ?_) kk
  have hne : (Sum.inr (ci, fs) : va_E) ≠ .inr (99, []) := by
    intro e; cases e; simp [vwCl] at hq
  exact va_get (C := q.1) (T := q.2.1) (N := q.2.2) (ref := (q.2.1 k).1) C.1 C.2.1 C.2.2.2.2.1 (eb_cls_in hq) C.2.2.2.1 hP.2.1.1 hP.1 a (hP.w he hne) hq k hk (C.2.2.2.2.1 _ hw) (fun _ h9 => h9) (v := eb_v b0 bs v) (by rw [List.getElem?_map, hv]; rfl) hd (kk H locs l' hP hL)
theorem V_putf {ci k a : Nat} {fin : Bool} {ty : FieldType} {fs fs' : List Value} {v : Value} (hd : eb_pf M pc pc' ci k fin ty) (he : h a = .inr (ci, fs)) (hf : eb_fit ty v) (hs : fs.set k v = fs') (hl : k < fs.length) (kk : eb_V M E pc' ls st z (eb_up h a (.inr (ci, fs'))) Q) : eb_V M E pc ls (v :: .ref a :: st) z h Q := by
  obtain ⟨idx, q, hd, rfl, hq, hk, hw, hfin, hty, hfi⟩ := hd
  obtain ⟨hc1, ty0, hc2, hc3⟩ := eb_cls hq
  refine eb_V.go (fun l D cs b0 bs p e R s m args below meth c Zf C hE H locs l' hP hL kk => ?_) kk
  have hne : (Sum.inr (ci, fs) : va_E) ≠ .inr (99, []) := by
    intro e; cases e; simp [vwCl] at hq
  have hset : ((eb_w cs b0 bs z.1 h).set a (bs + a, .inr (ci, (fs.map (eb_v b0 bs)).set k (eb_v b0 bs v)))) = (eb_w cs b0 bs z.1 h).set a (bs + a, eb_e cs b0 bs (.inr (ci, fs'))) := by
    rw [← hs]; simp [eb_e, List.map_set]
  cases fin with
  | false =>
    refine va_put (C := q.1) (T := q.2.1) (N := q.2.2) (ref := (q.2.1 k).1) (v := eb_v b0 bs v) C.1 C.2.1 C.2.2.2.2.1 (eb_cls_in hq) ty0 hc2 hc3 C.2.2.2.1 hP.2.1.1 hP.1 eb_w_D hP.2.2.1 a (hP.w he hne) hq k hk (C.2.2.2.2.1 _ hw) (fun _ h9 => h9) hfin hty (hf b0 bs).1 (hf b0 bs).2 (by simpa using hl) hd (fun H1 locs1 h1 h2 h3 => kk H1 locs1 l' ?_ hL)
    rw [hset] at h1
    exact hP.up he hne h1 h3
  | true =>
    refine va_putF (C := q.1) (T := q.2.1) (N := q.2.2) (ref := (q.2.1 k).1) (v := eb_v b0 bs v) C.1 C.2.1 C.2.2.2.2.1 (eb_cls_in hq) ty0 hc2 hc3 C.2.2.2.1 hP.2.1.1 hP.1 eb_w_D hP.2.2.1 a (hP.w he hne) hq k hk (C.2.2.2.2.1 _ hw) (fun _ h9 => h9) hfin (C.2.2.2.2.2.2.2 (hfi rfl).1) (hfi rfl).2 hty (hf b0 bs).1 (hf b0 bs).2 (by simpa using hl) hd (fun H1 locs1 h1 h2 h3 => kk H1 locs1 l' ?_ hL)
    rw [hset] at h1
    exact hP.up he hne h1 h3
end EBF
end
section
section EBA
variable {M : eb_M} {E : Nat → Nat → State → Prop} {pc pc' : Nat} {ls st : List Value} {z : eb_Z} {h : eb_H} {Q : Nat → List Value → List Value → eb_Z → eb_H → Prop}
theorem V_iald {a n : Nat} {f : Nat → Int} {i : Int} (hd : eb_at M pc pc' .iaload 1) (he : h a = eb_ia n f) (hi : 0 ≤ i ∧ i < (n : Int) ∧ n ≤ 2147483647) (k : eb_V M E pc' ls (.int (eb_I (f i.toNat)) :: st) z h Q) : eb_V M E pc ls (.int (eb_I i) :: .ref a :: st) z h Q := by
  obtain ⟨hd, rfl⟩ := hd
  refine eb_V.go (fun l D cs b0 bs p e R s m args below meth c Zf C hE H locs l' hP hL kk => ?_) k
  exact va_iald C.1 C.2.1 hP.2.1.1 hP.1 a 0 (hP.w he (by intro e; cases e)) rfl (eb_I_in ⟨hi.1, hi.2.1⟩ hi.2.2) hd (by simp only [eb_I_nat (show 0 ≤ i ∧ i ≤ 2147483647 by omega)]; exact kk H locs l' hP hL)
theorem V_lald {a n : Nat} {f : Nat → Int} {i : Int} (hd : eb_at M pc pc' .laload 1) (he : h a = eb_la n f) (hi : 0 ≤ i ∧ i < (n : Int) ∧ n ≤ 2147483647) (k : eb_V M E pc' ls (.long (eb_J (f i.toNat)) :: st) z h Q) : eb_V M E pc ls (.int (eb_I i) :: .ref a :: st) z h Q := by
  obtain ⟨hd, rfl⟩ := hd
  refine eb_V.go (fun l D cs b0 bs p e R s m args below meth c Zf C hE H locs l' hP hL kk => ?_) k
  exact va_lald C.1 C.2.1 hP.2.1.1 hP.1 a 1 (hP.w he (by intro e; cases e)) rfl (eb_I_in ⟨hi.1, hi.2.1⟩ hi.2.2) hd (by simp only [eb_I_nat (show 0 ≤ i ∧ i ≤ 2147483647 by omega)]; exact kk H locs l' hP hL)
theorem V_zald {a n : Nat} {f : Nat → Int} {i : Int} (hd : eb_at M pc pc' .baload 1) (he : h a = eb_za n f) (hi : 0 ≤ i ∧ i < (n : Int) ∧ n ≤ 2147483647) (k : eb_V M E pc' ls (.int (eb_I (f i.toNat)) :: st) z h Q) : eb_V M E pc ls (.int (eb_I i) :: .ref a :: st) z h Q := by
  obtain ⟨hd, rfl⟩ := hd
  refine eb_V.go (fun l D cs b0 bs p e R s m args below meth c Zf C hE H locs l' hP hL kk => ?_) k
  exact va_zald C.1 C.2.1 hP.2.1.1 hP.1 a 2 (hP.w he (by intro e; cases e)) rfl (eb_I_in ⟨hi.1, hi.2.1⟩ hi.2.2) hd (by simp only [eb_I_nat (show 0 ≤ i ∧ i ≤ 2147483647 by omega)]; exact kk H locs l' hP hL)
theorem V_aald {a n t q : Nat} {f : Nat → Option Nat} {i : Int} (hd : eb_at M pc pc' .aaload 1) (ht : t = 3 ∨ t = 4) (he : h a = eb_qa t n f) (hi : 0 ≤ i ∧ i < (n : Int) ∧ n ≤ 2147483647) (hq : f i.toNat = some q) (k : eb_V M E pc' ls (.ref q :: st) z h Q) : eb_V M E pc ls (.int (eb_I i) :: .ref a :: st) z h Q := by
  obtain ⟨hd, rfl⟩ := hd
  refine eb_V.go (fun l D cs b0 bs p e R s m args below meth c Zf C hE H locs l' hP hL kk => ?_) k
  have kk1 := kk H locs l' hP hL
  rcases ht with rfl | rfl
  · refine va_aldq C.1 C.2.1 hP.2.1.1 hP.1 a 3 (hP.w he (by intro e; cases e)) rfl (eb_I_in ⟨hi.1, hi.2.1⟩ hi.2.2) hd ?_
    simp only [eb_I_nat (show 0 ≤ i ∧ i ≤ 2147483647 by omega), hq]
    exact kk1
  · refine va_aldq C.1 C.2.1 hP.2.1.1 hP.1 a 4 (hP.w he (by intro e; cases e)) rfl (eb_I_in ⟨hi.1, hi.2.1⟩ hi.2.2) hd ?_
    simp only [eb_I_nat (show 0 ≤ i ∧ i ≤ 2147483647 by omega), hq]
    exact kk1
theorem V_iast {a n : Nat} {f : Nat → Int} {i x : Int} (hd : eb_at M pc pc' .iastore 1) (he : h a = eb_ia n f) (hi : 0 ≤ i ∧ i < (n : Int) ∧ n ≤ 2147483647) (k : eb_V M E pc' ls st z (eb_up h a (eb_ia n (eb_set f i.toNat x))) Q) : eb_V M E pc ls (.int (eb_I x) :: .int (eb_I i) :: .ref a :: st) z h Q := by
  obtain ⟨hd, rfl⟩ := hd
  refine eb_V.go (fun l D cs b0 bs p e R s m args below meth c Zf C hE H locs l' hP hL kk => ?_) k
  refine va_iast C.1 C.2.1 hP.2.1.1 hP.1 eb_w_D hP.2.2.1 a 0 (hP.w he (by intro e; cases e)) rfl (eb_I_in ⟨hi.1, hi.2.1⟩ hi.2.2) hd (fun H1 locs1 h1 h2 h3 => kk H1 locs1 l' ?_ hL)
  rw [eb_I_nat (show 0 ≤ i ∧ i ≤ 2147483647 by omega), eb_upd_I] at h1
  exact hP.up he (by intro e; cases e) h1 h3
theorem V_last {a n : Nat} {f : Nat → Int} {i x : Int} (hd : eb_at M pc pc' .lastore 1) (he : h a = eb_la n f) (hi : 0 ≤ i ∧ i < (n : Int) ∧ n ≤ 2147483647) (k : eb_V M E pc' ls st z (eb_up h a (eb_la n (eb_set f i.toNat x))) Q) : eb_V M E pc ls (.long (eb_J x) :: .int (eb_I i) :: .ref a :: st) z h Q := by
  obtain ⟨hd, rfl⟩ := hd
  refine eb_V.go (fun l D cs b0 bs p e R s m args below meth c Zf C hE H locs l' hP hL kk => ?_) k
  refine va_last C.1 C.2.1 hP.2.1.1 hP.1 eb_w_D hP.2.2.1 a 1 (hP.w he (by intro e; cases e)) rfl (eb_I_in ⟨hi.1, hi.2.1⟩ hi.2.2) hd (fun H1 locs1 h1 h2 h3 => kk H1 locs1 l' ?_ hL)
  rw [eb_I_nat (show 0 ≤ i ∧ i ≤ 2147483647 by omega)] at h1
  refine hP.up he (by intro e; cases e) (e := eb_la n (eb_set f i.toNat x)) ?_ h3
  have : (fun j => eb_J (eb_set f i.toNat x j)) = fun j => if j = i.toNat then eb_J x else eb_J (f j) := by funext j; simp only [eb_set]; split <;> rfl
  show va_P D vwCl ((eb_w cs b0 bs z.1 h).set a (bs + a, .inl (cs 1, n, .inr (.inl (fun j => eb_J (eb_set f i.toNat x j)))))) H1
  rw [this]
  exact h1
theorem V_zast {a n : Nat} {f : Nat → Int} {i x : Int} (hd : eb_at M pc pc' .bastore 1) (he : h a = eb_za n f) (hi : 0 ≤ i ∧ i < (n : Int) ∧ n ≤ 2147483647) (hx : x = 0 ∨ x = 1) (k : eb_V M E pc' ls st z (eb_up h a (eb_za n (eb_set f i.toNat x))) Q) : eb_V M E pc ls (.int (eb_I x) :: .int (eb_I i) :: .ref a :: st) z h Q := by
  obtain ⟨hd, rfl⟩ := hd
  refine eb_V.go (fun l D cs b0 bs p e R s m args below meth c Zf C hE H locs l' hP hL kk => ?_) k
  refine va_zast C.1 C.2.1 hP.2.1.1 hP.1 eb_w_D hP.2.2.1 a 2 (hP.w he (by intro e; cases e)) rfl (eb_I_in ⟨hi.1, hi.2.1⟩ hi.2.2) hd (fun H1 locs1 h1 h2 h3 => kk H1 locs1 l' ?_ hL)
  have hn : vp_nar .boolean (eb_I x) = eb_I x := by rcases hx with rfl | rfl <;> rfl
  rw [eb_I_nat (show 0 ≤ i ∧ i ≤ 2147483647 by omega), hn, eb_upd_I] at h1
  exact hP.up he (by intro e; cases e) h1 h3
theorem V_aast {a n t q ci : Nat} {f : Nat → Option Nat} {fs : List Value} {i : Int} (hd : eb_at M pc pc' .aastore 1) (ht : (t = 3 ∧ ci = 6) ∨ (t = 4 ∧ ci = 2)) (he : h a = eb_qa t n f) (hv : h q = .inr (ci, fs)) (hi : 0 ≤ i ∧ i < (n : Int) ∧ n ≤ 2147483647) (k : eb_V M E pc' ls st z (eb_up h a (eb_qa t n (eb_set f i.toNat (some q)))) Q) : eb_V M E pc ls (.ref q :: .int (eb_I i) :: .ref a :: st) z h Q := by
  obtain ⟨hd, rfl⟩ := hd
  refine eb_V.go (fun l D cs b0 bs p e R s m args below meth c Zf C hE H locs l' hP hL kk => ?_) k
  have key : (fun j => (eb_set f i.toNat (some q) j).map (fun k => bs + k)) = va_up (fun j => (f j).map (fun k => bs + k)) i.toNat (some (bs + q)) := by
    funext j; simp only [eb_set, va_up]; split <;> rfl
  rcases ht with ⟨rfl, rfl⟩ | ⟨rfl, rfl⟩
  · refine va_astq (r := (RX7, TX7, 6)) C.1 C.2.1 hP.2.1.1 hP.1 eb_w_D hP.2.2.1 a 3 q 6 (hP.w he (by intro e; cases e)) rfl (hP.w hv (by intro e; cases e)) rfl (eb_I_in ⟨hi.1, hi.2.1⟩ hi.2.2) hd (fun H1 locs1 h1 h2 h3 => kk H1 locs1 l' ?_ hL)
    rw [eb_I_nat (show 0 ≤ i ∧ i ≤ 2147483647 by omega), ← key] at h1
    exact hP.up he (by intro e; cases e) (e := eb_qa 3 n (eb_set f i.toNat (some q))) h1 h3
  · refine va_astq (r := (RX2, TX2, 3)) C.1 C.2.1 hP.2.1.1 hP.1 eb_w_D hP.2.2.1 a 4 q 2 (hP.w he (by intro e; cases e)) rfl (hP.w hv (by intro e; cases e)) rfl (eb_I_in ⟨hi.1, hi.2.1⟩ hi.2.2) hd (fun H1 locs1 h1 h2 h3 => kk H1 locs1 l' ?_ hL)
    rw [eb_I_nat (show 0 ≤ i ∧ i ≤ 2147483647 by omega), ← key] at h1
    exact hP.up he (by intro e; cases e) (e := eb_qa 4 n (eb_set f i.toNat (some q))) h1 h3
theorem V_alen {a n : Nat} {f : Nat → Int} (hd : eb_at M pc pc' .arraylength 1) (he : h a = eb_ia n f) (k : eb_V M E pc' ls (.int (eb_I n) :: st) z h Q) : eb_V M E pc ls (.ref a :: st) z h Q := by
  obtain ⟨hd, rfl⟩ := hd
  refine eb_V.go (fun l D cs b0 bs p e R s m args below meth c Zf C hE H locs l' hP hL kk => ?_) k
  exact va_alen C.1 C.2.1 hP.2.1.1 hP.1 a 0 (hP.w he (by intro e; cases e)) rfl (by show Int32.ofNat n = _; exact (Int32.ofInt_eq_ofNat (n := n)).symm) hd (kk H locs l' hP hL)
/-- switches -/
theorem V_tswOut {d lo hi a : Int} {offs : Array Int} {n tgt : Nat} (hd : eb_at M pc pc' (.tableswitch d lo hi offs) n) (hr : -2147483648 ≤ a ∧ a ≤ 2147483647) (hh : a < lo ∨ hi < a) (ht : (pc : Int) + d = (tgt : Int)) (k : eb_V M E tgt ls st z h Q) : eb_V M E pc ls (.int (eb_I a) :: st) z h Q := by
  obtain ⟨hd, rfl⟩ := hd
  refine eb_V.go (fun l D cs b0 bs p e R s m args below meth c Zf C hE H locs l' hP hL kk => ?_) k
  exact lv_tableOut (tgt := tgt) C.1 C.2.1 hd (by rw [eb_I_to hr]; exact hh) ht (kk H locs l' hP hL)
theorem V_tswIn {d lo hi a off : Int} {offs : Array Int} {n tgt : Nat} (hd : eb_at M pc pc' (.tableswitch d lo hi offs) n) (hr : -2147483648 ≤ a ∧ a ≤ 2147483647) (hh : lo ≤ a ∧ a ≤ hi) (ho : offs[(a - lo).toNat]? = some off) (ht : (pc : Int) + off = (tgt : Int)) (k : eb_V M E tgt ls st z h Q) : eb_V M E pc ls (.int (eb_I a) :: st) z h Q := by
  obtain ⟨hd, rfl⟩ := hd
  refine eb_V.go (fun l D cs b0 bs p e R s m args below meth c Zf C hE H locs l' hP hL kk => ?_) k
  exact lv_tableIn (tgt := tgt) C.1 C.2.1 hd (by rw [eb_I_to hr]; omega) (by rw [eb_I_to hr]; omega) (by rw [eb_I_to hr]; exact ho) ht (kk H locs l' hP hL)
theorem V_lsw {d a off : Int} {ps : Array (Int × Int)} {n tgt : Nat} (hd : eb_at M pc pc' (.lookupswitch d ps) n) (hr : -2147483648 ≤ a ∧ a ≤ 2147483647) (hp : (ps.toList.zip (ps.toList.drop 1)).all (fun (a, next) => a.1 < next.1) = true) (ho : Op.lookupswitch.offset ps.toList d a = off) (ht : (pc : Int) + off = (tgt : Int)) (k : eb_V M E tgt ls st z h Q) : eb_V M E pc ls (.int (eb_I a) :: st) z h Q := by
  obtain ⟨hd, rfl⟩ := hd
  refine eb_V.go (fun l D cs b0 bs p e R s m args below meth c Zf C hE H locs l' hP hL kk => ?_) k
  exact lv_lookup (tgt := tgt) C.1 C.2.1 hd hp (by rw [eb_I_to hr]; exact ho) ht (kk H locs l' hP hL)
/-- ends -/
theorem V_iret {n c s : Nat} {x : Int} {ty : FieldType} {Qr : Option Value → Nat → eb_H → Prop} (hd : eb_at M pc pc' .ireturn 1) (hc : c ≤ eb_mc M ∧ s ≤ eb_ms M) (hr : eb_ret M = some ty) (hn : narrow ty (.int (eb_I x)) = .int (eb_I x)) (hq : Qr (some (.int (eb_I x))) n h) : eb_V M E pc ls [.int (eb_I x)] (n, c, s) h (eb_R M Qr) :=
  eb_V.done ⟨hc, _, hq, Or.inl ⟨_, ty, hd.1, rfl, rfl, hr, hn⟩⟩
theorem V_lret {n c s : Nat} {x : Int} {Qr : Option Value → Nat → eb_H → Prop} (hd : eb_at M pc pc' .lreturn 1) (hc : c ≤ eb_mc M ∧ s ≤ eb_ms M) (hr : eb_ret M = some .long) (hq : Qr (some (.long (eb_J x))) n h) : eb_V M E pc ls [.long (eb_J x)] (n, c, s) h (eb_R M Qr) :=
  eb_V.done ⟨hc, _, hq, Or.inr (Or.inl ⟨_, hd.1, rfl, rfl, hr⟩)⟩
theorem V_vret {n c s : Nat} {Qr : Option Value → Nat → eb_H → Prop} (hd : eb_at M pc pc' .return_ 1) (hc : c ≤ eb_mc M ∧ s ≤ eb_ms M) (hr : eb_ret M = none) (hq : Qr none n h) : eb_V M E pc ls [] (n, c, s) h (eb_R M Qr) :=
  eb_V.done ⟨hc, _, hq, Or.inr (Or.inr (Or.inl ⟨hd.1, rfl, rfl, hr⟩))⟩
theorem V_aret {n c s k : Nat} {rt : FieldType} {Qr : Option Value → Nat → eb_H → Prop} (hd : eb_at M pc pc' .areturn 1) (hc : c ≤ eb_mc M ∧ s ≤ eb_ms M) (hr : eb_ret M = some rt) (hk : (∃ n, rt = .object n) ∨ ∃ t, rt = .array t) (hq : Qr (some (.ref k)) n h) : eb_V M E pc ls [.ref k] (n, c, s) h (eb_R M Qr) :=
  eb_V.done ⟨hc, _, hq, Or.inr (Or.inr (Or.inr ⟨k, rt, hd.1, rfl, rfl, hr, hk⟩))⟩
end EBA
/-- what a call asks of the method that it calls -/
def eb_okm (M : eb_M) (np : Nat) : Prop := Cond.code (eb_y M) (eb_code M) (eb_nl M) (eb_ret M) ∈ eb_ts ∧ Cond.initialized (eb_y M).cls ∈ eb_ts ∧ ((eb_y M).cls ≠ "java/lang/invoke/MethodHandle" ∧ (eb_y M).cls ≠ "java/lang/invoke/VarHandle" ∧ (parseMethodDescriptor (eb_y M).desc).map (fun d => d.parameters.length) = some np) ∧ eb_nl M ≤ 17
def eb_cv (M : eb_M) (pc pc' : Nat) (M' : eb_M) (np : Nat) : Prop := ∃ (idx : Nat) (q : vw_C), decode (eb_code M) pc = .ok (.invokevirtual idx, 3) ∧ pc + 3 = pc' ∧ Cond.methodLink (eb_y M).cls idx (eb_y M') ∈ eb_ts ∧ Cond.instanceMethod (eb_y M') ∈ eb_ts ∧ Cond.selects (eb_y M').cls (eb_y M') (eb_y M') ∈ eb_ts ∧ eb_lv M' + 1 ≤ eb_lv M ∧ vwCl[eb_ci M']? = some q ∧ q.1 = (eb_y M').cls ∧ eb_okm M' np
def eb_cs (M : eb_M) (pc pc' : Nat) (M' : eb_M) (np : Nat) : Prop := ∃ (idx : Nat), decode (eb_code M) pc = .ok (.invokestatic idx, 3) ∧ pc + 3 = pc' ∧ Cond.methodLink (eb_y M).cls idx (eb_y M') ∈ eb_ts ∧ Cond.static (eb_y M') ∈ eb_ts ∧ eb_lv M' + 1 ≤ eb_lv M ∧ eb_okm M' np
def eb_cc (M : eb_M) (pc pc' : Nat) (M' : eb_M) (np : Nat) : Prop := ∃ (idx : Nat), decode (eb_code M) pc = .ok (.invokespecial idx, 3) ∧ pc + 3 = pc' ∧ (Cond.methodLink (eb_y M).cls idx (eb_y M') ∈ eb_ts ∨ ∃ host, Cond.methodLinkNest (eb_y M).cls idx (eb_y M') host ∈ eb_nw) ∧ (eb_y M').name = "<init>" ∧ Cond.instanceMethod (eb_y M') ∈ eb_ts ∧ eb_lv M' + 1 ≤ eb_lv M ∧ eb_ret M' = none ∧ eb_okm M' np
theorem eb_good {M : eb_M} {np : Nat} (h : eb_okm M np) : GoodIn eb_ts (eb_ws M) := by
  intro w hw
  have hm : w ∈ eb_ts := by
    rcases List.mem_cons.mp hw with rfl | hw
    · exact h.1
    · exact hw
  exact ⟨hm, good_of_word (List.mem_filter.mp hm).2⟩
section EBK
variable {p : Program} {l : Launch} {e : Env} {R : Room} {s : State} {m : MethodId} {args : Array Value} {below : List Frame} {meth : Method} {c : Code} {H : Heap} {locs : List Loc} {Zf : State → Prop} {D : va_G} {cs : Nat → ClassId} {b0 bs : Nat} {pc : Nat} {l' : Array Slot} {rest st0 : List Value} {a : Array Value}
theorem eb_after {M' : eb_M} {z : eb_Z} {h : eb_H} {Q' : Option Value → Nat → eb_H → Prop} (hP : eb_P D cs b0 bs s z h H locs) (hz : H.size = bs + z.1)
    (hr : va_Run p l e R s m args below meth c H locs z.2.1 z.2.2 (eb_mc M') (eb_ms M') (F0 m pc l' st0) rest (fun st oc t => (∃ (r : Option Value) (n' : Nat) (h' : eb_H), oc = .returned (r.map (eb_v b0 bs)) ∧ Q' r n' h' ∧ t.heap.size = bs + n' ∧ va_P D vwCl (eb_w cs b0 bs n' h') t.heap ∧ eb_wf n' h') ∧ va_F (fun q => bs ≤ q) st t) (fun q => bs ≤ q))
    (hmc : eb_mc M' = 0 ∨ ∀ r n' h', Q' r n' h' → z.1 + eb_mc M' ≤ n')
    (kk : ∀ (r : Option Value) (n' : Nat) (h' : eb_H) (H1 : Heap) (locs1 : List Loc), Q' r n' h' → eb_P D cs b0 bs s (n', z.2.1 + eb_mc M', z.2.2 + eb_ms M') h' H1 locs1 → W p l e R s m args below meth c H1 locs1 (z.2.1 + eb_mc M') (z.2.2 + eb_ms M') Zf (F0 m (pc + 3) l' ((r.map (eb_v b0 bs)).toList ++ rest))) :
    W p l e R s m args below meth c H locs z.2.1 z.2.2 Zf (F0 m pc l' st0) := by
  intro T hT X
  obtain ⟨v, st₀, t, T', L, h0, X', hL, e1, e2, ⟨⟨r, n', h', hv, hq, hz1, hP1, hw1⟩, hF⟩, st⟩ := hr T hT X
  cases hv
  obtain ⟨hPa, hPb, hPc, ⟨hPd, hPe⟩, hPf⟩ := hP
  have hF1 := hF.1
  have hF2 := hF.2
  rw [h0] at hF1 hF2
  have hsz : s.heap.size + (z.2.1 + eb_mc M') ≤ bs + n' := by
    rcases hmc with q | q
    · rw [hz, hz1] at hF1
      omega
    · have := q r n' h' hq
      omega
  obtain ⟨t2, a1, b1⟩ := kk r n' h' T'.heap (locs ++ L) hq ⟨by rw [e1]; exact hP1, hPb, ⟨Nat.le_trans hPc.1 (by rw [e1]; exact hF1), fun q h1 h2 => by
      rw [e1, hF2 q (Nat.lt_of_lt_of_le h1 hPc.1) h2]
      exact hPc.2.1 q h1 h2, fun q hq => by
      rcases List.mem_append.mp hq with h | h
      · exact hPc.2.2 q h
      · exact hL q h⟩, ⟨hsz, hPe⟩, hw1⟩ T' rfl X'
  exact ⟨t2, st t2 a1, b1⟩
theorem eb_blind {as : List Value} {n : Nat} {h : eb_H} : FrameBlind (va_Pc (as.map (eb_v b0 bs)) (fun U => U.heap.size = bs + n ∧ va_P D vwCl (eb_w cs b0 bs n h) U.heap ∧ eb_K D cs U ∧ eb_wf n h)) :=
  fun a U g mk q => ⟨q.1, q.2.1, q.2.2.1, q.2.2.2.1.calling, q.2.2.2.2⟩
end EBK
theorem eb_room {b0 bs : Nat} {st : List Value} (h : (st.map Value.category).sum ≤ 8) : ((st.map (eb_v b0 bs)).map fun v => v.category).sum ≤ 8 := by
  rw [List.map_map]
  have : ((fun v => Value.category v) ∘ eb_v b0 bs) = Value.category := by funext v; exact eb_v_cat b0 bs v
  rw [this]
  exact h
section EBC
variable {M : eb_M} {E : Nat → Nat → State → Prop} {pc pc' : Nat} {ls st stk : List Value} {n c s : Nat} {h : eb_H} {Q : Nat → List Value → List Value → eb_Z → eb_H → Prop}
theorem V_callv {M' : eb_M} {np b : Nat} {As fs : List Value} {Q' : Option Value → Nat → eb_H → Prop} (hd : eb_cv M pc pc' M' np) (T : eb_T M' (.ref b :: As) n h Q') (he : h b = .inr (eb_ci M', fs)) (hs : stk = As.reverse ++ .ref b :: st) (hn : As.length = np) (hst : (st.map Value.category).sum ≤ 8) (hc : c + eb_mc M' ≤ eb_mc M ∧ s + eb_ms M' ≤ eb_ms M) (hmc : eb_mc M' = 0 ∨ ∀ r n' h', Q' r n' h' → n + eb_mc M' ≤ n')
    (k : ∀ r n' h', Q' r n' h' → eb_V M E pc' ls (r.toList ++ st) (n', c + eb_mc M', s + eb_ms M') h' Q) : eb_V M E pc ls stk (n, c, s) h Q := by
  obtain ⟨idx, q, hd, rfl, hlk, hin, hse, hlv, hq, hqc, hok⟩ := hd
  intro l D cs b0 bs p e R s' m args below meth c' Zf C hE hqq H locs l' hP hL
  refine eb_sized (fun hsz => ?_)
  have hz := hP.size hsz
  have hts := C.2.2.2.2.1
  have hR := C.2.2.2.2.2.1
  have hC := C.2.2.2.2.2.2.1
  have cw : CallW R s' args (eb_y M).cls (eb_y M').cls idx (eb_y M') (eb_code M') (eb_nl M') (eb_ret M') (eb_ws M') (eb_rm M') (eb_mc M') (eb_ms M') np :=
    ⟨callB_of np hts (eb_good hok) rfl rfl rfl (hts _ hok.2.1) (hts _ hlk) hok.2.2.1 ⟨by show eb_lv M' + 1 ≤ R.frames; omega, by show 8 + (eb_nl M' + 11) + 36 * eb_lv M' ≤ R.locals; have := hok.2.2.2; omega⟩, hts _ hin, hts _ hse⟩
  have hne : (Sum.inr (eb_ci M', fs) : va_E) ≠ .inr (99, []) := by
    intro e
    have e1 : eb_ci M' = 99 := congrArg Prod.fst (Sum.inr.inj e)
    rw [e1] at hq; simp [vwCl] at hq
  have hrec := va_recv hP.2.1.1 hP.1 hq (hP.w he hne)
  rw [hqc] at hrec
  refine eb_after (M' := M') (rest := st.map (eb_v b0 bs)) hP hz (va_runV (As := As.map (eb_v b0 bs)) (b := bs + b) ⟨C.1, C.2.1, C.2.2.1, C.2.2.2.1, hts⟩ (T l D cs b0 bs) cw ⟨eb_blind, hrec, fun U hU hW => ⟨rfl, by rw [hU]; exact hz, by rw [hU]; exact hP.1, hP.2.1.warm hW, hP.2.2.2.2⟩⟩ rfl (by simpa using hn) hL.1 (by rw [hs]; simp [eb_v]) (lv_room (eb_room hst)) hd ⟨by simp only; omega, by simp only; omega⟩) hmc ?_
  intro r n' h' H1 locs1 hq' hP1
  have := k r n' h' hq' l D cs b0 bs p e R s' m args below meth c' Zf C hE hqq H1 locs1 l' hP1 hL
  rw [List.map_append, show List.map (eb_v b0 bs) r.toList = (r.map (eb_v b0 bs)).toList by cases r <;> rfl] at this
  exact this
theorem V_calls {M' : eb_M} {np : Nat} {As : List Value} {Q' : Option Value → Nat → eb_H → Prop} (hd : eb_cs M pc pc' M' np) (T : eb_T M' As n h Q') (hs : stk = As.reverse ++ st) (hn : As.length = np) (hst : (st.map Value.category).sum ≤ 8) (hc : c + eb_mc M' ≤ eb_mc M ∧ s + eb_ms M' ≤ eb_ms M) (hmc : eb_mc M' = 0 ∨ ∀ r n' h', Q' r n' h' → n + eb_mc M' ≤ n')
    (k : ∀ r n' h', Q' r n' h' → eb_V M E pc' ls (r.toList ++ st) (n', c + eb_mc M', s + eb_ms M') h' Q) : eb_V M E pc ls stk (n, c, s) h Q := by
  obtain ⟨idx, hd, rfl, hlk, hstt, hlv, hok⟩ := hd
  intro l D cs b0 bs p e R s' m args below meth c' Zf C hE hqq H locs l' hP hL
  refine eb_sized (fun hsz => ?_)
  have hz := hP.size hsz
  have hts := C.2.2.2.2.1
  have hR := C.2.2.2.2.2.1
  have hC := C.2.2.2.2.2.2.1
  have cw : CallB R s' args (eb_y M).cls idx (eb_y M') (eb_code M') (eb_nl M') (eb_ret M') (eb_ws M') (eb_rm M') (eb_mc M') (eb_ms M') np :=
    callB_of np hts (eb_good hok) rfl rfl rfl (hts _ hok.2.1) (hts _ hlk) hok.2.2.1 ⟨by show eb_lv M' + 1 ≤ R.frames; omega, by show 8 + (eb_nl M' + 11) + 36 * eb_lv M' ≤ R.locals; have := hok.2.2.2; omega⟩
  refine eb_after (M' := M') (rest := st.map (eb_v b0 bs)) hP hz (va_runS (As := As.map (eb_v b0 bs)) ⟨C.1, C.2.1, C.2.2.1, C.2.2.2.1, hts⟩ (T l D cs b0 bs) ⟨cw, hts _ hstt⟩ ⟨eb_blind, fun U hU hW => ⟨rfl, by rw [hU]; exact hz, by rw [hU]; exact hP.1, hP.2.1.warm hW, hP.2.2.2.2⟩⟩ rfl (by simpa using hn) hL.1 (by rw [hs]; simp) (lv_room (eb_room hst)) hd ⟨by simp only; omega, by simp only; omega⟩) hmc ?_
  intro r n' h' H1 locs1 hq' hP1
  have := k r n' h' hq' l D cs b0 bs p e R s' m args below meth c' Zf C hE hqq H1 locs1 l' hP1 hL
  rw [List.map_append, show List.map (eb_v b0 bs) r.toList = (r.map (eb_v b0 bs)).toList by cases r <;> rfl] at this
  exact this
theorem V_callc {M' : eb_M} {np b : Nat} {As : List Value} {Q' : Option Value → Nat → eb_H → Prop} (hd : eb_cc M pc pc' M' np) (T : eb_T M' (.ref b :: As) n h Q') (hs : stk = As.reverse ++ .ref b :: st) (hn : As.length = np) (hst : (st.map Value.category).sum ≤ 8) (hc : c + eb_mc M' ≤ eb_mc M ∧ s + eb_ms M' ≤ eb_ms M) (hmc : eb_mc M' = 0 ∨ ∀ r n' h', Q' r n' h' → n + eb_mc M' ≤ n')
    (k : ∀ r n' h', Q' r n' h' → eb_V M E pc' ls (r.toList ++ st) (n', c + eb_mc M', s + eb_ms M') h' Q) : eb_V M E pc ls stk (n, c, s) h Q := by
  obtain ⟨idx, hd, rfl, hlk, hy1, hin, hlv, hret, hok⟩ := hd
  intro l D cs b0 bs p e R s' m args below meth c' Zf C hE hqq H locs l' hP hL
  refine eb_sized (fun hsz => ?_)
  have hz := hP.size hsz
  have hts := C.2.2.2.2.1
  have hR := C.2.2.2.2.2.1
  have hC := C.2.2.2.2.2.2.1
  have hrm : (eb_rm M').frames + 1 ≤ R.frames ∧ 8 + (eb_nl M' + 11) + (eb_rm M').locals ≤ R.locals := ⟨by show eb_lv M' + 1 ≤ R.frames; omega, by show 8 + (eb_nl M' + 11) + 36 * eb_lv M' ≤ R.locals; have := hok.2.2.2; omega⟩
  have hw0 : eb_ws M' = Cond.code (eb_y M') (eb_code M') (eb_nl M') none :: eb_ts := by rw [← hret]; rfl
  have fin : ∀ (hr : va_Run p l e R s' m args below meth c' H locs c s (eb_mc M') (eb_ms M') (F0 m pc l' (stk.map (eb_v b0 bs))) (st.map (eb_v b0 bs)) (fun st oc t => (∃ (r : Option Value) (n' : Nat) (h' : eb_H), oc = .returned (r.map (eb_v b0 bs)) ∧ Q' r n' h' ∧ t.heap.size = bs + n' ∧ va_P D vwCl (eb_w cs b0 bs n' h') t.heap ∧ eb_wf n' h') ∧ va_F (fun q => bs ≤ q) st t) (fun q => bs ≤ q)), W p l e R s' m args below meth c' H locs c s Zf (F0 m pc l' (stk.map (eb_v b0 bs))) := by
    intro hr
    refine eb_after (M' := M') (z := (n, c, s)) (rest := st.map (eb_v b0 bs)) hP hz hr hmc ?_
    intro r n' h' H1 locs1 hq' hP1
    have := k r n' h' hq' l D cs b0 bs p e R s' m args below meth c' Zf C hE hqq H1 locs1 l' hP1 hL
    rw [List.map_append, show List.map (eb_v b0 bs) r.toList = (r.map (eb_v b0 bs)).toList by cases r <;> rfl] at this
    exact this
  have hpre : PreS s' H (va_Pc ((Value.ref b :: As).map (eb_v b0 bs)) (fun U => U.heap.size = bs + n ∧ va_P D vwCl (eb_w cs b0 bs n h) U.heap ∧ eb_K D cs U ∧ eb_wf n h)) (.ref (bs + b) :: As.map (eb_v b0 bs)) :=
    ⟨eb_blind, fun U hU hW => ⟨rfl, by rw [hU]; exact hz, by rw [hU]; exact hP.1, hP.2.1.warm hW, hP.2.2.2.2⟩⟩
  rcases hlk with hlk | ⟨host, hlk⟩
  · exact fin (va_runI (As := As.map (eb_v b0 bs)) (b := bs + b) ⟨C.1, C.2.1, C.2.2.1, C.2.2.2.1, hts⟩ (T l D cs b0 bs) (cwI np hts (eb_good hok) hw0 rfl rfl (hts _ hok.2.1) (hts _ hlk) (hts _ hin) hy1 hok.2.2.1 hrm) hpre rfl (by simpa using hn) hL.1 (by rw [hs]; simp [eb_v]) (lv_room (eb_room hst)) hd ⟨by omega, by omega⟩)
  · exact fin (va_runIN (As := As.map (eb_v b0 bs)) (b := bs + b) ⟨C.1, C.2.1, C.2.2.1, C.2.2.2.1, hts⟩ (T l D cs b0 bs) ⟨va_cnB np hts (eb_good hok) hw0 rfl rfl (hP.2.1.2.2.2 _ hlk) (hts _ hok.2.1) hok.2.2.1 hrm, hy1, hts _ hin⟩ hpre rfl (by simpa using hn) hL.1 (by rw [hs]; simp [eb_v]) (lv_room (eb_room hst)) hd ⟨by omega, by omega⟩)
end EBC
end
section
theorem eb_q {A : Nat → Prop} {cs : Nat → ClassId} {b0 bs n q : Nat} {h : eb_H} {e : va_E} {D : va_G} {H1 : Heap} {hi : Nat} (hA : ∀ x, A x → bs ≤ x) (hD : va_D A (eb_w cs b0 bs n h ++ [(q, e)])) (hP : va_P D vwCl (eb_w cs b0 bs n h ++ [(q, e)]) H1) (hu : H1.size ≤ hi) (hh : hi ≤ bs + n + 1) : q = bs + n := by
  have hlen : (eb_w cs b0 bs n h).length = n := by simp [eb_w]
  have hlast : (eb_w cs b0 bs n h ++ [(q, e)])[n]? = some (q, e) := by
    rw [List.getElem?_append_right (by omega), hlen, Nat.sub_self]; rfl
  have h1 : q < H1.size := (hP n _ hlast).lt
  have h2 : bs ≤ q := hA _ (hD.2 n _ hlast)
  rcases Nat.lt_or_ge q (bs + n) with hq | hq
  · have hk : q - bs < n := by omega
    have h3 : (eb_w cs b0 bs n h ++ [(q, e)])[q - bs]? = some (bs + (q - bs), eb_e cs b0 bs (h (q - bs))) := by
      rw [List.getElem?_append_left (by omega), eb_w_at hk]
    have := hD.1 (q - bs) n _ _ h3 hlast (by simp only; omega)
    omega
  · omega
theorem eb_P.push {D : va_G} {cs : Nat → ClassId} {b0 bs : Nat} {s : State} {n c sl N : Nat} {h : eb_H} {H H1 : Heap} {locs : List Loc} {e : va_E} (hP : eb_P D cs b0 bs s (n, c, sl) h H locs)
    (h1 : va_P D vwCl (eb_w cs b0 bs n h ++ [(bs + n, eb_e cs b0 bs e)]) H1) (h2 : va_S (fun q => bs ≤ q) s.heap H1 locs) : eb_P D cs b0 bs s (n + 1, c + 1, sl + N) (eb_up h n e) H1 locs := by
  rw [eb_w_push] at h1
  have hz := hP.2.2.2.1.1
  simp only at hz
  refine ⟨h1, hP.2.1, h2, ⟨by simp only; omega, hP.2.2.2.1.2⟩, fun k hk => ?_⟩
  have hk' : n + 1 ≤ k := hk
  rw [eb_up, if_neg (by omega)]
  exact hP.2.2.2.2 k (show n ≤ k by omega)
def eb_nw_at (M : eb_M) (pc pc' ci : Nat) (fs : List Value) (N : Nat) : Prop := ∃ (idx : Nat) (q : vw_C), decode (eb_code M) pc = .ok (.new idx, 3) ∧ pc + 3 = pc' ∧ vwCl[ci]? = some q ∧ q.2.2 = N ∧ Cond.classLink (eb_y M).cls idx q.1 ∈ eb_ts ∧ Cond.instantiable q.1 q.2.2 ∈ eb_ts ∧ Cond.initialized q.1 ∈ eb_ts ∧ (∀ j, j < q.2.2 → (parseFieldDescriptor (q.2.1 j).2.2.1).map defaultValue = some (vp_V fs j))
section EBN
variable {M : eb_M} {E : Nat → Nat → State → Prop} {pc pc' : Nat} {ls st stk : List Value} {n c s : Nat} {h : eb_H} {Q : Nat → List Value → List Value → eb_Z → eb_H → Prop}
theorem V_new {ci N : Nat} {fs : List Value} (hd : eb_nw_at M pc pc' ci fs N) (hfs : ∀ b0 bs, fs.map (eb_v b0 bs) = fs) (hc : c + 1 ≤ eb_mc M ∧ s + N ≤ eb_ms M) (k : eb_V M E pc' ls (.ref n :: st) (n + 1, c + 1, s + N) (eb_up h n (.inr (ci, fs))) Q) : eb_V M E pc ls st (n, c, s) h Q := by
  obtain ⟨idx, q, hd, rfl, hq, rfl, hcl, hins, hini, hdf⟩ := hd
  obtain ⟨hc1, ty0, hc2, hc3⟩ := eb_cls hq
  intro l D cs b0 bs p e R s' m args below meth c' Zf C hE hqq H locs l' hP hL
  have hts := C.2.2.2.2.1
  have hC := C.2.2.2.2.2.2.1
  refine va_new (C := q.1) (T := q.2.1) (N := q.2.2) (fs := fs) C.1 C.2.1 hts (eb_cls_in hq) ty0 hc2 C.2.2.2.1 (hts _ hcl) (hts _ hins) (hts _ hini) hP.2.1.1 hP.1 eb_w_D hP.2.2.1 (fun x hx => Nat.le_trans hP.2.2.2.1.2 hx) hq (fun j hj => ?_) (by simp only; omega) (by simp only; omega) hd (fun a H1 h1 h2 h3 => ?_)
  · have e1 := hdf j hj
    rw [hc2 j hj] at e1
    exact Option.some.inj e1
  · refine eb_sized (fun hsz => ?_)
    have hz := hP.2.2.2.1.1
    simp only at hz hsz
    have ha : a = bs + n := eb_q (fun x hx => hx) h2 h1 hsz (by omega)
    subst ha
    have e1 : (Sum.inr (ci, fs) : va_E) = eb_e cs b0 bs (.inr (ci, fs)) := by simp [eb_e, hfs b0 bs]
    rw [e1] at h1
    exact k l D cs b0 bs p e R s' m args below meth c' Zf C hE hqq H1 locs l' (hP.push h1 h3) hL
theorem V_newi {i : Int} {N : Nat} (hd : eb_at M pc pc' (.newarray .int) 2) (hw : Cond.arrayClass .int ∈ eb_ts) (hi : i = (N : Int)) (hN : N ≤ 100000) (hc : c + 1 ≤ eb_mc M ∧ s + N ≤ eb_ms M) (k : eb_V M E pc' ls (.ref n :: st) (n + 1, c + 1, s + N) (eb_up h n (eb_ia N (fun _ => 0))) Q) : eb_V M E pc ls (.int (eb_I i) :: st) (n, c, s) h Q := by
  obtain ⟨hd, rfl⟩ := hd
  subst hi
  intro l D cs b0 bs p e R s' m args below meth c' Zf C hE hqq H locs l' hP hL
  have hts := C.2.2.2.2.1
  have hC := C.2.2.2.2.2.2.1
  refine va_newa (atype := .int) (ty := .int) (a0 := (N, .inl (fun _ => 0))) C.1 C.2.1 (hts _ hw) rfl hP.2.1.1 hP.1 eb_w_D hP.2.2.1 (fun x hx => Nat.le_trans hP.2.2.2.1.2 hx) (fun cA => rfl) (by rw [show (0 : Int32) = eb_I 0 from rfl, eb_I_lt (by omega) (by omega)]; omega) (N' := N) (by rw [eb_I_nat (by omega)]; simp) (by show N * 4 ≤ _; omega) (by simp only; omega) (by simp only; omega) hd (fun a cA H1 hK1 h1 h2 h3 => ?_)
  refine eb_sized (fun hsz => ?_)
  have hz := hP.2.2.2.1.1
  simp only at hz hsz
  have hcA : cA = cs 0 := by
    have e1 : va_RA s' cA .int := (hK1.2 5 (cA, .int) rfl).2
    have e2 : va_RA s' (cs 0) .int := (hK1.2 0 (cs 0, .int) rfl).2
    exact Option.some.inj (e1.symm.trans e2)
  subst hcA
  have ha : a = bs + n := eb_q (fun x hx => hx) h2 h1 hsz (by omega)
  subst ha
  exact k l D cs b0 bs p e R s' m args below meth c' Zf C hE hqq H1 locs l' (hP.push (e := eb_ia N (fun _ => 0)) h1 h3) hL
theorem V_newl {i : Int} {N : Nat} (hd : eb_at M pc pc' (.newarray .long) 2) (hw : Cond.arrayClass .long ∈ eb_ts) (hi : i = (N : Int)) (hN : N ≤ 100000) (hc : c + 1 ≤ eb_mc M ∧ s + N ≤ eb_ms M) (k : eb_V M E pc' ls (.ref n :: st) (n + 1, c + 1, s + N) (eb_up h n (eb_la N (fun _ => 0))) Q) : eb_V M E pc ls (.int (eb_I i) :: st) (n, c, s) h Q := by
  obtain ⟨hd, rfl⟩ := hd
  subst hi
  intro l D cs b0 bs p e R s' m args below meth c' Zf C hE hqq H locs l' hP hL
  have hts := C.2.2.2.2.1
  have hC := C.2.2.2.2.2.2.1
  refine va_newa (atype := .long) (ty := .long) (a0 := (N, .inr (.inl (fun _ => 0)))) C.1 C.2.1 (hts _ hw) rfl hP.2.1.1 hP.1 eb_w_D hP.2.2.1 (fun x hx => Nat.le_trans hP.2.2.2.1.2 hx) (fun cA => rfl) (by rw [show (0 : Int32) = eb_I 0 from rfl, eb_I_lt (by omega) (by omega)]; omega) (N' := N) (by rw [eb_I_nat (by omega)]; simp) (by show N * 8 ≤ _; omega) (by simp only; omega) (by simp only; omega) hd (fun a cA H1 hK1 h1 h2 h3 => ?_)
  refine eb_sized (fun hsz => ?_)
  have hz := hP.2.2.2.1.1
  simp only at hz hsz
  have hcA : cA = cs 1 := by
    have e1 : va_RA s' cA .long := (hK1.2 5 (cA, .long) rfl).2
    have e2 : va_RA s' (cs 1) .long := (hK1.2 1 (cs 1, .long) rfl).2
    exact Option.some.inj (e1.symm.trans e2)
  subst hcA
  have ha : a = bs + n := eb_q (fun x hx => hx) h2 h1 hsz (by omega)
  subst ha
  exact k l D cs b0 bs p e R s' m args below meth c' Zf C hE hqq H1 locs l' (hP.push (e := eb_la N (fun _ => 0)) h1 h3) hL
theorem V_newz {i : Int} {N : Nat} (hd : eb_at M pc pc' (.newarray .boolean) 2) (hw : Cond.arrayClass .boolean ∈ eb_ts) (hi : i = (N : Int)) (hN : N ≤ 100000) (hc : c + 1 ≤ eb_mc M ∧ s + N ≤ eb_ms M) (k : eb_V M E pc' ls (.ref n :: st) (n + 1, c + 1, s + N) (eb_up h n (eb_za N (fun _ => 0))) Q) : eb_V M E pc ls (.int (eb_I i) :: st) (n, c, s) h Q := by
  obtain ⟨hd, rfl⟩ := hd
  subst hi
  intro l D cs b0 bs p e R s' m args below meth c' Zf C hE hqq H locs l' hP hL
  have hts := C.2.2.2.2.1
  have hC := C.2.2.2.2.2.2.1
  refine va_newa (atype := .boolean) (ty := .boolean) (a0 := (N, .inl (fun _ => 0))) C.1 C.2.1 (hts _ hw) rfl hP.2.1.1 hP.1 eb_w_D hP.2.2.1 (fun x hx => Nat.le_trans hP.2.2.2.1.2 hx) (fun cA => rfl) (by rw [show (0 : Int32) = eb_I 0 from rfl, eb_I_lt (by omega) (by omega)]; omega) (N' := N) (by rw [eb_I_nat (by omega)]; simp) (by show N * 1 ≤ _; omega) (by simp only; omega) (by simp only; omega) hd (fun a cA H1 hK1 h1 h2 h3 => ?_)
  refine eb_sized (fun hsz => ?_)
  have hz := hP.2.2.2.1.1
  simp only at hz hsz
  have hcA : cA = cs 2 := by
    have e1 : va_RA s' cA .boolean := (hK1.2 5 (cA, .boolean) rfl).2
    have e2 : va_RA s' (cs 2) .boolean := (hK1.2 2 (cs 2, .boolean) rfl).2
    exact Option.some.inj (e1.symm.trans e2)
  subst hcA
  have ha : a = bs + n := eb_q (fun x hx => hx) h2 h1 hsz (by omega)
  subst ha
  exact k l D cs b0 bs p e R s' m args below meth c' Zf C hE hqq H1 locs l' (hP.push (e := eb_za N (fun _ => 0)) h1 h3) hL
theorem V_newq {i : Int} {N t idx : Nat} {C0 : String} (hd : eb_at M pc pc' (.anewarray idx) 3) (ht : (t = 3 ∧ C0 = RX7) ∨ (t = 4 ∧ C0 = RX2)) (hw : Cond.classLink (eb_y M).cls idx C0 ∈ eb_ts) (hi : i = (N : Int)) (hN : N ≤ 100000) (hc : c + 1 ≤ eb_mc M ∧ s + N ≤ eb_ms M) (k : eb_V M E pc' ls (.ref n :: st) (n + 1, c + 1, s + N) (eb_up h n (eb_qa t N (fun _ => none))) Q) : eb_V M E pc ls (.int (eb_I i) :: st) (n, c, s) h Q := by
  obtain ⟨hd, rfl⟩ := hd
  subst hi
  intro l D cs b0 bs p e R s' m args below meth c' Zf C hE hqq H locs l' hP hL
  have hts := C.2.2.2.2.1
  have hC := C.2.2.2.2.2.2.1
  have hAO : va_AO C0 s' := by
    rcases ht with ⟨-, rfl⟩ | ⟨-, rfl⟩
    · exact hP.2.1.2.1
    · exact hP.2.1.2.2.1
  refine va_newq (C := C0) C.1 C.2.1 C.2.2.2.1 (hts _ hw) hAO hP.2.1.1 hP.1 eb_w_D hP.2.2.1 (fun x hx => Nat.le_trans hP.2.2.2.1.2 hx) (by rw [show (0 : Int32) = eb_I 0 from rfl, eb_I_lt (by omega) (by omega)]; omega) (N' := N) (by rw [eb_I_nat (by omega)]; simp) (by omega) (by simp only; omega) (by simp only; omega) hd (fun a cA H1 hK1 h1 h2 h3 => ?_)
  refine eb_sized (fun hsz => ?_)
  have hz := hP.2.2.2.1.1
  simp only at hz hsz
  have hcA : cA = cs t := by
    obtain ⟨_, _, _, _, _, e1⟩ := (hK1.2 5 (cA, .object C0) rfl).2
    rcases ht with ⟨rfl, rfl⟩ | ⟨rfl, rfl⟩
    · obtain ⟨_, _, _, _, _, e2⟩ := (hK1.2 3 (cs 3, .object RX7) rfl).2
      exact Option.some.inj (e1.symm.trans e2)
    · obtain ⟨_, _, _, _, _, e2⟩ := (hK1.2 4 (cs 4, .object RX2) rfl).2
      exact Option.some.inj (e1.symm.trans e2)
  subst hcA
  have ha : a = bs + n := eb_q (fun x hx => hx) h2 h1 hsz (by omega)
  subst ha
  exact k l D cs b0 bs p e R s' m args below meth c' Zf C hE hqq H1 locs l' (hP.push (e := eb_qa t N (fun _ => none)) h1 h3) hL
theorem V_oinit {idx b : Nat} {z : eb_Z} (hd : eb_at M pc pc' (.invokespecial idx) 3) (h1 : Cond.methodLink (eb_y M).cls idx objectInit ∈ eb_ts) (h2 : Cond.instanceMethod objectInit ∈ eb_ts) (h3 : Cond.code objectInit ⟨#[0xb1]⟩ 1 none ∈ eb_ts) (hlv : 1 ≤ eb_lv M) (hst : (st.map Value.category).sum ≤ 8) (k : eb_V M E pc' ls st z h Q) : eb_V M E pc ls (.ref b :: st) z h Q := by
  obtain ⟨hd, rfl⟩ := hd
  refine eb_V.go (fun l D cs b0 bs p e R s m args below meth c Zf C hE H locs l' hP hL kk => ?_) k
  have hts := C.2.2.2.2.1
  have hR := C.2.2.2.2.2.1
  refine W.objInit C.1 C.2.1 C.2.2.2.1 (hts _ h1) (hts _ h2) (hts _ h3) rfl (by rw [C.2.2.1]; exact hL.1) rfl hd (by omega) ?_ ?_
  · have := eb_room (b0 := b0) (bs := bs) hst
    show 2 * 0 + _ + 12 ≤ R.locals
    omega
  · exact kk H locs l' hP hL
theorem V_acopy {idx a0 a n0 n1 : Nat} {f g : Nat → Int} {sp dp nn : Int} {z : eb_Z} (hd : eb_at M pc pc' (.invokestatic idx) 3) (h1 : Cond.methodLink (eb_y M).cls idx arraycopyName ∈ eb_ts) (h2 : Cond.native arraycopyName ∈ eb_ts) (h3 : Cond.static arraycopyName ∈ eb_ts) (h4 : Cond.initialized "java/lang/System" ∈ eb_ts) (hlv : 1 ≤ eb_lv M) (hst : (st.map Value.category).sum ≤ 8)
    (he0 : h a0 = eb_la n0 f) (he1 : h a = eb_la n1 g) (hr : n0 ≤ 100000 ∧ n1 ≤ 100000 ∧ 0 ≤ sp ∧ 0 ≤ dp ∧ 0 ≤ nn ∧ sp + nn ≤ n0 ∧ dp + nn ≤ n1)
    (k : eb_V M E pc' ls st z (eb_up h a (eb_la n1 (va_cpy f g sp.toNat dp.toNat nn.toNat))) Q) : eb_V M E pc ls (.int (eb_I nn) :: .int (eb_I dp) :: .ref a :: .int (eb_I sp) :: .ref a0 :: st) z h Q := by
  obtain ⟨hd, rfl⟩ := hd
  refine eb_V.go (fun l D cs b0 bs p e R s m args below meth c Zf C hE H locs l' hP hL kk => ?_) k
  have hts := C.2.2.2.2.1
  have hR := C.2.2.2.2.2.1
  have hn : ∀ x : Int, 0 ≤ x → x ≤ 200000 → ¬ eb_I x < 0 := fun x h0 h9 => by rw [show (0 : Int32) = eb_I 0 from rfl, eb_I_lt (by omega) (by omega)]; omega
  have hnat : nativeFrameWords "java/lang/System" "arraycopy" 5 ≤ 17 := by decide +kernel
  refine va_copyl (ty := .long) C.1 C.2.1 (C.2.2.1.trans hL.1.symm) C.2.2.2.1 (hts _ h1) (hts _ h2) (hts _ h3) (hts _ h4) hP.2.1.1 hP.1 eb_w_D hP.2.2.1 a0 a 1 1 (hP.w he0 (by intro e; cases e)) (hP.w he1 (by intro e; cases e)) rfl rfl rfl (hn sp (by omega) (by omega)) (hn dp (by omega) (by omega)) (hn nn (by omega) (by omega)) (by rw [eb_I_nat (by omega), eb_I_nat (by omega)]; omega) (by rw [eb_I_nat (by omega), eb_I_nat (by omega)]; omega) (fun i hi => rfl) (by omega) ?_ hd (fun H1 locs1 g1 g2 g3 => kk H1 locs1 l' ?_ hL)
  · have := eb_room (b0 := b0) (bs := bs) hst
    omega
  · rw [eb_I_nat (by omega), eb_I_nat (by omega), eb_I_nat (by omega)] at g1
    refine hP.up he1 (by intro e; cases e) (e := eb_la n1 (va_cpy f g sp.toNat dp.toNat nn.toNat)) ?_ g3
    have : (fun j => eb_J (va_cpy f g sp.toNat dp.toNat nn.toNat j)) = va_cpy (fun j => eb_J (f j)) (fun j => eb_J (g j)) sp.toNat dp.toNat nn.toNat := by funext j; simp only [va_cpy]; split <;> rfl
    show va_P D vwCl ((eb_w cs b0 bs z.1 h).set a (bs + a, .inl (cs 1, n1, .inr (.inl (fun j => eb_J (va_cpy f g sp.toNat dp.toNat nn.toNat j)))))) H1
    rw [this]
    exact g1
end EBN
end
section
abbrev mL_law : eb_M := ((yL_law, cL_law, 4, (Option.some Jvm.ClassFile.FieldType.boolean)), (99, 10, 1000, 100000))
theorem wd_497 : Cond.code yJ_max cJ_max 2 (Option.some Jvm.ClassFile.FieldType.int) ∈ eb_ts := eb_mem 497 (by decide +kernel) rfl
theorem wd_64 : Cond.initialized "java/lang/Math" ∈ eb_ts := eb_mem 64 (by decide +kernel) rfl
theorem wd_418 : Cond.code yJ_min cJ_min 2 (Option.some Jvm.ClassFile.FieldType.int) ∈ eb_ts := eb_mem 418 (by decide +kernel) rfl
theorem wd_675 : Cond.code yX0_add cX0_add 3 (Option.some Jvm.ClassFile.FieldType.int) ∈ eb_ts := eb_mem 675 (by decide +kernel) rfl
theorem wd_57 : Cond.initialized RX0 ∈ eb_ts := eb_mem 57 (by decide +kernel) rfl
theorem wd_501 : Cond.code yX0_firstWrong cX0_firstWrong 3 (Option.some Jvm.ClassFile.FieldType.int) ∈ eb_ts := eb_mem 501 (by decide +kernel) rfl
theorem wd_175 : Cond.code yX0_init cX0_init 1 (Option.none : Option Jvm.ClassFile.FieldType) ∈ eb_ts := eb_mem 175 (by decide +kernel) rfl
theorem wd_954 : Cond.code yX10_becomes cX10_becomes 5 (Option.some Jvm.ClassFile.FieldType.int) ∈ eb_ts := eb_mem 954 (by decide +kernel) rfl
theorem wd_62 : Cond.initialized RX10 ∈ eb_ts := eb_mem 62 (by decide +kernel) rfl
theorem wd_896 : Cond.code yX10_beginSet cX10_beginSet 4 (Option.some Jvm.ClassFile.FieldType.long) ∈ eb_ts := eb_mem 896 (by decide +kernel) rfl
theorem wd_1008 : Cond.code yX10_best cX10_best 8 (Option.some Jvm.ClassFile.FieldType.int) ∈ eb_ts := eb_mem 1008 (by decide +kernel) rfl
theorem wd_888 : Cond.code yX10_breakLines cX10_breakLines 4 (Option.none : Option Jvm.ClassFile.FieldType) ∈ eb_ts := eb_mem 888 (by decide +kernel) rfl
theorem wd_925 : Cond.code yX10_change cX10_change 3 (Option.some Jvm.ClassFile.FieldType.int) ∈ eb_ts := eb_mem 925 (by decide +kernel) rfl
theorem wd_828 : Cond.code yX10_clearWord cX10_clearWord 3 (Option.none : Option Jvm.ClassFile.FieldType) ∈ eb_ts := eb_mem 828 (by decide +kernel) rfl
theorem wd_921 : Cond.code yX10_cost cX10_cost 3 (Option.some Jvm.ClassFile.FieldType.int) ∈ eb_ts := eb_mem 921 (by decide +kernel) rfl
theorem wd_881 : Cond.code yX10_costBy cX10_costBy 3 (Option.some Jvm.ClassFile.FieldType.int) ∈ eb_ts := eb_mem 881 (by decide +kernel) rfl
theorem wd_874 : Cond.code yX10_costOf cX10_costOf 5 (Option.some Jvm.ClassFile.FieldType.int) ∈ eb_ts := eb_mem 874 (by decide +kernel) rfl
theorem wd_979 : Cond.code yX10_drawOf cX10_drawOf 2 (Option.some Jvm.ClassFile.FieldType.int) ∈ eb_ts := eb_mem 979 (by decide +kernel) rfl
theorem wd_974 : Cond.code yX10_drift cX10_drift 4 (Option.some Jvm.ClassFile.FieldType.int) ∈ eb_ts := eb_mem 974 (by decide +kernel) rfl
theorem wd_900 : Cond.code yX10_end cX10_end 3 (Option.some Jvm.ClassFile.FieldType.int) ∈ eb_ts := eb_mem 900 (by decide +kernel) rfl
theorem wd_832 : Cond.code yX10_fault cX10_fault 1 (Option.some Jvm.ClassFile.FieldType.int) ∈ eb_ts := eb_mem 832 (by decide +kernel) rfl
theorem wd_966 : Cond.code yX10_fee cX10_fee 2 (Option.some Jvm.ClassFile.FieldType.int) ∈ eb_ts := eb_mem 966 (by decide +kernel) rfl
theorem wd_796 : Cond.code yX10_feed cX10_feed 2 (Option.some Jvm.ClassFile.FieldType.int) ∈ eb_ts := eb_mem 796 (by decide +kernel) rfl
theorem wd_991 : Cond.code yX10_first cX10_first 2 (Option.some Jvm.ClassFile.FieldType.int) ∈ eb_ts := eb_mem 991 (by decide +kernel) rfl
theorem wd_995 : Cond.code yX10_firstOf cX10_firstOf 9 (Option.some Jvm.ClassFile.FieldType.int) ∈ eb_ts := eb_mem 995 (by decide +kernel) rfl
theorem wd_970 : Cond.code yX10_free cX10_free 2 (Option.some Jvm.ClassFile.FieldType.int) ∈ eb_ts := eb_mem 970 (by decide +kernel) rfl
theorem wd_1034 : Cond.code yX10_goBack cX10_goBack 3 (Option.some Jvm.ClassFile.FieldType.int) ∈ eb_ts := eb_mem 1034 (by decide +kernel) rfl
theorem wd_892 : Cond.code yX10_growsOf cX10_growsOf 6 (Option.some Jvm.ClassFile.FieldType.int) ∈ eb_ts := eb_mem 892 (by decide +kernel) rfl
theorem wd_800 : Cond.code yX10_in cX10_in 6 (Option.some Jvm.ClassFile.FieldType.boolean) ∈ eb_ts := eb_mem 800 (by decide +kernel) rfl
theorem wd_702 : Cond.code yX10_init cX10_init 1 (Option.none : Option Jvm.ClassFile.FieldType) ∈ eb_ts := eb_mem 702 (by decide +kernel) rfl
theorem wd_934 : Cond.code yX10_insert cX10_insert 3 (Option.some Jvm.ClassFile.FieldType.int) ∈ eb_ts := eb_mem 934 (by decide +kernel) rfl
theorem wd_904 : Cond.code yX10_isEnd cX10_isEnd 2 (Option.some Jvm.ClassFile.FieldType.boolean) ∈ eb_ts := eb_mem 904 (by decide +kernel) rfl
theorem wd_840 : Cond.code yX10_isWord cX10_isWord 2 (Option.some Jvm.ClassFile.FieldType.boolean) ∈ eb_ts := eb_mem 840 (by decide +kernel) rfl
theorem wd_1030 : Cond.code yX10_keep cX10_keep 3 (Option.some Jvm.ClassFile.FieldType.int) ∈ eb_ts := eb_mem 1030 (by decide +kernel) rfl
theorem wd_999 : Cond.code yX10_known cX10_known 3 (Option.some Jvm.ClassFile.FieldType.int) ∈ eb_ts := eb_mem 999 (by decide +kernel) rfl
theorem wd_861 : Cond.code yX10_lay cX10_lay 1 (Option.none : Option Jvm.ClassFile.FieldType) ∈ eb_ts := eb_mem 861 (by decide +kernel) rfl
theorem wd_869 : Cond.code yX10_layBy cX10_layBy 6 (Option.none : Option Jvm.ClassFile.FieldType) ∈ eb_ts := eb_mem 869 (by decide +kernel) rfl
theorem wd_857 : Cond.code yX10_layLines cX10_layLines 1 (Option.none : Option Jvm.ClassFile.FieldType) ∈ eb_ts := eb_mem 857 (by decide +kernel) rfl
theorem wd_1054 : Cond.code yX10_layMeasures cX10_layMeasures 4 (Option.none : Option Jvm.ClassFile.FieldType) ∈ eb_ts := eb_mem 1054 (by decide +kernel) rfl
theorem wd_917 : Cond.code yX10_line cX10_line 3 (Option.some Jvm.ClassFile.FieldType.int) ∈ eb_ts := eb_mem 917 (by decide +kernel) rfl
theorem wd_853 : Cond.code yX10_lineOf cX10_lineOf 3 (Option.some Jvm.ClassFile.FieldType.int) ∈ eb_ts := eb_mem 853 (by decide +kernel) rfl
theorem wd_878 : Cond.code yX10_lineWidth cX10_lineWidth 3 (Option.some Jvm.ClassFile.FieldType.int) ∈ eb_ts := eb_mem 878 (by decide +kernel) rfl
theorem wd_1058 : Cond.code yX10_lookOf cX10_lookOf 6 (Option.some Jvm.ClassFile.FieldType.int) ∈ eb_ts := eb_mem 1058 (by decide +kernel) rfl
theorem wd_950 : Cond.code yX10_measure cX10_measure 2 (Option.some Jvm.ClassFile.FieldType.int) ∈ eb_ts := eb_mem 950 (by decide +kernel) rfl
theorem wd_865 : Cond.code yX10_measureWords cX10_measureWords 2 (Option.none : Option Jvm.ClassFile.FieldType) ∈ eb_ts := eb_mem 865 (by decide +kernel) rfl
theorem wd_942 : Cond.code yX10_moveWord cX10_moveWord 4 (Option.none : Option Jvm.ClassFile.FieldType) ∈ eb_ts := eb_mem 942 (by decide +kernel) rfl
theorem wd_820 : Cond.code yX10_note cX10_note 2 (Option.none : Option Jvm.ClassFile.FieldType) ∈ eb_ts := eb_mem 820 (by decide +kernel) rfl
theorem wd_913 : Cond.code yX10_ownerBy cX10_ownerBy 7 (Option.some Jvm.ClassFile.FieldType.int) ∈ eb_ts := eb_mem 913 (by decide +kernel) rfl
theorem wd_938 : Cond.code yX10_putIn cX10_putIn 3 (Option.none : Option Jvm.ClassFile.FieldType) ∈ eb_ts := eb_mem 938 (by decide +kernel) rfl
theorem wd_929 : Cond.code yX10_readOne cX10_readOne 2 (Option.some Jvm.ClassFile.FieldType.int) ∈ eb_ts := eb_mem 929 (by decide +kernel) rfl
theorem wd_810 : Cond.code yX10_readWords cX10_readWords 5 (Option.some Jvm.ClassFile.FieldType.int) ∈ eb_ts := eb_mem 810 (by decide +kernel) rfl
theorem wd_1046 : Cond.code yX10_rivers cX10_rivers 5 (Option.some Jvm.ClassFile.FieldType.int) ∈ eb_ts := eb_mem 1046 (by decide +kernel) rfl
theorem wd_884 : Cond.code yX10_root cX10_root 3 (Option.some Jvm.ClassFile.FieldType.int) ∈ eb_ts := eb_mem 884 (by decide +kernel) rfl
theorem wd_962 : Cond.code yX10_rule cX10_rule 2 (Option.some Jvm.ClassFile.FieldType.int) ∈ eb_ts := eb_mem 962 (by decide +kernel) rfl
theorem wd_909 : Cond.code yX10_runsAt cX10_runsAt 6 (Option.some Jvm.ClassFile.FieldType.int) ∈ eb_ts := eb_mem 909 (by decide +kernel) rfl
theorem wd_1013 : Cond.code yX10_see cX10_see 3 (Option.some Jvm.ClassFile.FieldType.int) ∈ eb_ts := eb_mem 1013 (by decide +kernel) rfl
theorem wd_1026 : Cond.code yX10_seed cX10_seed 3 (Option.some Jvm.ClassFile.FieldType.int) ∈ eb_ts := eb_mem 1026 (by decide +kernel) rfl
theorem wd_946 : Cond.code yX10_take cX10_take 4 (Option.some Jvm.ClassFile.FieldType.int) ∈ eb_ts := eb_mem 946 (by decide +kernel) rfl
theorem wd_824 : Cond.code yX10_takeWord cX10_takeWord 4 (Option.none : Option Jvm.ClassFile.FieldType) ∈ eb_ts := eb_mem 824 (by decide +kernel) rfl
theorem wd_1022 : Cond.code yX10_tear cX10_tear 2 (Option.some Jvm.ClassFile.FieldType.int) ∈ eb_ts := eb_mem 1022 (by decide +kernel) rfl
theorem wd_1038 : Cond.code yX10_told cX10_told 2 (Option.some Jvm.ClassFile.FieldType.int) ∈ eb_ts := eb_mem 1038 (by decide +kernel) rfl
theorem wd_1042 : Cond.code yX10_toldLines cX10_toldLines 2 (Option.some Jvm.ClassFile.FieldType.int) ∈ eb_ts := eb_mem 1042 (by decide +kernel) rfl
theorem wd_1050 : Cond.code yX10_toldMeasures cX10_toldMeasures 2 (Option.some Jvm.ClassFile.FieldType.int) ∈ eb_ts := eb_mem 1050 (by decide +kernel) rfl
theorem wd_958 : Cond.code yX10_total cX10_total 1 (Option.some Jvm.ClassFile.FieldType.int) ∈ eb_ts := eb_mem 958 (by decide +kernel) rfl
theorem wd_806 : Cond.code yX10_type cX10_type 3 (Option.some Jvm.ClassFile.FieldType.int) ∈ eb_ts := eb_mem 806 (by decide +kernel) rfl
theorem wd_987 : Cond.code yX10_undo cX10_undo 3 (Option.some Jvm.ClassFile.FieldType.int) ∈ eb_ts := eb_mem 987 (by decide +kernel) rfl
theorem wd_849 : Cond.code yX10_widthOf cX10_widthOf 1 (Option.some Jvm.ClassFile.FieldType.int) ∈ eb_ts := eb_mem 849 (by decide +kernel) rfl
theorem wd_1003 : Cond.code yX10_with cX10_with 8 (Option.some Jvm.ClassFile.FieldType.int) ∈ eb_ts := eb_mem 1003 (by decide +kernel) rfl
theorem wd_836 : Cond.code yX10_word cX10_word 3 (Option.some Jvm.ClassFile.FieldType.int) ∈ eb_ts := eb_mem 836 (by decide +kernel) rfl
theorem wd_846 : Cond.code yX10_wordWidth cX10_wordWidth 4 (Option.some Jvm.ClassFile.FieldType.int) ∈ eb_ts := eb_mem 846 (by decide +kernel) rfl
theorem wd_1017 : Cond.code yX10_write cX10_write 3 (Option.some Jvm.ClassFile.FieldType.int) ∈ eb_ts := eb_mem 1017 (by decide +kernel) rfl
theorem wd_1062 : Cond.code yX10_wrongEntry cX10_wrongEntry 4 (Option.some Jvm.ClassFile.FieldType.int) ∈ eb_ts := eb_mem 1062 (by decide +kernel) rfl
theorem wd_816 : Cond.code yX10_wrongs cX10_wrongs 3 (Option.some Jvm.ClassFile.FieldType.int) ∈ eb_ts := eb_mem 816 (by decide +kernel) rfl
theorem wd_610 : Cond.code yX1_draw cX1_draw 2 (Option.some Jvm.ClassFile.FieldType.int) ∈ eb_ts := eb_mem 610 (by decide +kernel) rfl
theorem wd_56 : Cond.initialized RX1 ∈ eb_ts := eb_mem 56 (by decide +kernel) rfl
theorem wd_606 : Cond.code yX1_drawWord cX1_drawWord 5 (Option.some Jvm.ClassFile.FieldType.long) ∈ eb_ts := eb_mem 606 (by decide +kernel) rfl
theorem wd_162 : Cond.code yX1_init cX1_init 1 (Option.none : Option Jvm.ClassFile.FieldType) ∈ eb_ts := eb_mem 162 (by decide +kernel) rfl
theorem wd_274 : Cond.code yX2_init cX2_init 1 (Option.none : Option Jvm.ClassFile.FieldType) ∈ eb_ts := eb_mem 274 (by decide +kernel) rfl
theorem wd_60 : Cond.initialized RX2 ∈ eb_ts := eb_mem 60 (by decide +kernel) rfl
theorem wd_451 : Cond.code yX3_beginOf cX3_beginOf 2 (Option.some Jvm.ClassFile.FieldType.int) ∈ eb_ts := eb_mem 451 (by decide +kernel) rfl
theorem wd_58 : Cond.initialized RX3 ∈ eb_ts := eb_mem 58 (by decide +kernel) rfl
theorem wd_455 : Cond.code yX3_endOf cX3_endOf 2 (Option.some Jvm.ClassFile.FieldType.int) ∈ eb_ts := eb_mem 455 (by decide +kernel) rfl
theorem wd_435 : Cond.code yX3_firstCrossed cX3_firstCrossed 5 (Option.some Jvm.ClassFile.FieldType.int) ∈ eb_ts := eb_mem 435 (by decide +kernel) rfl
theorem wd_439 : Cond.code yX3_firstFall cX3_firstFall 7 (Option.some Jvm.ClassFile.FieldType.int) ∈ eb_ts := eb_mem 439 (by decide +kernel) rfl
theorem wd_459 : Cond.code yX3_hasGapAt cX3_hasGapAt 5 (Option.some Jvm.ClassFile.FieldType.boolean) ∈ eb_ts := eb_mem 459 (by decide +kernel) rfl
theorem wd_195 : Cond.code yX3_init cX3_init 2 (Option.none : Option Jvm.ClassFile.FieldType) ∈ eb_ts := eb_mem 195 (by decide +kernel) rfl
theorem wd_343 : Cond.code yX3_isBegin cX3_isBegin 2 (Option.some Jvm.ClassFile.FieldType.boolean) ∈ eb_ts := eb_mem 343 (by decide +kernel) rfl
theorem wd_431 : Cond.code yX3_lastTotal cX3_lastTotal 1 (Option.some Jvm.ClassFile.FieldType.int) ∈ eb_ts := eb_mem 431 (by decide +kernel) rfl
theorem wd_339 : Cond.code yX3_layLines cX3_layLines 3 (Option.none : Option Jvm.ClassFile.FieldType) ∈ eb_ts := eb_mem 339 (by decide +kernel) rfl
theorem wd_645 : Cond.code yX3_leastWithLines cX3_leastWithLines 4 (Option.some Jvm.ClassFile.FieldType.int) ∈ eb_ts := eb_mem 645 (by decide +kernel) rfl
theorem wd_649 : Cond.code yX3_leastWithOneMore cX3_leastWithOneMore 6 (Option.some Jvm.ClassFile.FieldType.int) ∈ eb_ts := eb_mem 649 (by decide +kernel) rfl
theorem wd_517 : Cond.code yX3_lineOf cX3_lineOf 3 (Option.some Jvm.ClassFile.FieldType.int) ∈ eb_ts := eb_mem 517 (by decide +kernel) rfl
theorem wd_298 : Cond.code yX3_load cX3_load 3 (Option.none : Option Jvm.ClassFile.FieldType) ∈ eb_ts := eb_mem 298 (by decide +kernel) rfl
theorem wd_335 : Cond.code yX3_loosePrice cX3_loosePrice 2 (Option.some Jvm.ClassFile.FieldType.int) ∈ eb_ts := eb_mem 335 (by decide +kernel) rfl
theorem wd_542 : Cond.code yX3_ownerKnownTo cX3_ownerKnownTo 7 (Option.some Jvm.ClassFile.FieldType.int) ∈ eb_ts := eb_mem 542 (by decide +kernel) rfl
theorem wd_443 : Cond.code yX3_price cX3_price 3 (Option.some Jvm.ClassFile.FieldType.int) ∈ eb_ts := eb_mem 443 (by decide +kernel) rfl
theorem wd_327 : Cond.code yX3_priceOf cX3_priceOf 3 (Option.some Jvm.ClassFile.FieldType.int) ∈ eb_ts := eb_mem 327 (by decide +kernel) rfl
theorem wd_447 : Cond.code yX3_rivers cX3_rivers 5 (Option.some Jvm.ClassFile.FieldType.int) ∈ eb_ts := eb_mem 447 (by decide +kernel) rfl
theorem wd_538 : Cond.code yX3_runsAt cX3_runsAt 6 (Option.some Jvm.ClassFile.FieldType.int) ∈ eb_ts := eb_mem 538 (by decide +kernel) rfl
theorem wd_318 : Cond.code yX3_settle cX3_settle 7 (Option.none : Option Jvm.ClassFile.FieldType) ∈ eb_ts := eb_mem 318 (by decide +kernel) rfl
theorem wd_314 : Cond.code yX3_solve cX3_solve 2 (Option.none : Option Jvm.ClassFile.FieldType) ∈ eb_ts := eb_mem 314 (by decide +kernel) rfl
theorem wd_331 : Cond.code yX3_tightPrice cX3_tightPrice 2 (Option.some Jvm.ClassFile.FieldType.int) ∈ eb_ts := eb_mem 331 (by decide +kernel) rfl
theorem wd_525 : Cond.code yX3_widen cX3_widen 4 (Option.none : Option Jvm.ClassFile.FieldType) ∈ eb_ts := eb_mem 525 (by decide +kernel) rfl
theorem wd_323 : Cond.code yX3_widthOf cX3_widthOf 3 (Option.some Jvm.ClassFile.FieldType.int) ∈ eb_ts := eb_mem 323 (by decide +kernel) rfl
theorem wd_624 : Cond.code yX4_giveBack cX4_giveBack 3 (Option.none : Option Jvm.ClassFile.FieldType) ∈ eb_ts := eb_mem 624 (by decide +kernel) rfl
theorem wd_55 : Cond.initialized RX4 ∈ eb_ts := eb_mem 55 (by decide +kernel) rfl
theorem wd_142 : Cond.code yX4_init cX4_init 2 (Option.none : Option Jvm.ClassFile.FieldType) ∈ eb_ts := eb_mem 142 (by decide +kernel) rfl
theorem wd_404 : Cond.code yX4_remember cX4_remember 2 (Option.none : Option Jvm.ClassFile.FieldType) ∈ eb_ts := eb_mem 404 (by decide +kernel) rfl
theorem wd_304 : Cond.code yX5_lengthOf cX5_lengthOf 3 (Option.some Jvm.ClassFile.FieldType.int) ∈ eb_ts := eb_mem 304 (by decide +kernel) rfl
theorem wd_61 : Cond.initialized RX5 ∈ eb_ts := eb_mem 61 (by decide +kernel) rfl
theorem wd_307 : Cond.code yX5_letterAt cX5_letterAt 4 (Option.some Jvm.ClassFile.FieldType.int) ∈ eb_ts := eb_mem 307 (by decide +kernel) rfl
theorem wd_310 : Cond.code yX5_letterWidth cX5_letterWidth 1 (Option.some Jvm.ClassFile.FieldType.int) ∈ eb_ts := eb_mem 310 (by decide +kernel) rfl
theorem wd_301 : Cond.code yX5_widthOf cX5_widthOf 5 (Option.some Jvm.ClassFile.FieldType.int) ∈ eb_ts := eb_mem 301 (by decide +kernel) rfl
theorem wd_400 : Cond.code yX5_withLetter cX5_withLetter 4 (Option.some Jvm.ClassFile.FieldType.long) ∈ eb_ts := eb_mem 400 (by decide +kernel) rfl
theorem wd_658 : Cond.code yX6_bestMeasure cX6_bestMeasure 5 (Option.some Jvm.ClassFile.FieldType.int) ∈ eb_ts := eb_mem 658 (by decide +kernel) rfl
theorem wd_59 : Cond.initialized RX6 ∈ eb_ts := eb_mem 59 (by decide +kernel) rfl
theorem wd_467 : Cond.code yX6_fill cX6_fill 3 (Option.none : Option Jvm.ClassFile.FieldType) ∈ eb_ts := eb_mem 467 (by decide +kernel) rfl
theorem wd_477 : Cond.code yX6_fits cX6_fits 2 (Option.some Jvm.ClassFile.FieldType.boolean) ∈ eb_ts := eb_mem 477 (by decide +kernel) rfl
theorem wd_473 : Cond.code yX6_fitting cX6_fitting 3 (Option.some Jvm.ClassFile.FieldType.int) ∈ eb_ts := eb_mem 473 (by decide +kernel) rfl
theorem wd_494 : Cond.code yX6_fittingThatBegin cX6_fittingThatBegin 4 (Option.some Jvm.ClassFile.FieldType.int) ∈ eb_ts := eb_mem 494 (by decide +kernel) rfl
theorem wd_684 : Cond.code yX6_forget cX6_forget 1 (Option.none : Option Jvm.ClassFile.FieldType) ∈ eb_ts := eb_mem 684 (by decide +kernel) rfl
theorem wd_485 : Cond.code yX6_greatestFitting cX6_greatestFitting 2 (Option.some Jvm.ClassFile.FieldType.int) ∈ eb_ts := eb_mem 485 (by decide +kernel) rfl
theorem wd_247 : Cond.code yX6_init cX6_init 1 (Option.none : Option Jvm.ClassFile.FieldType) ∈ eb_ts := eb_mem 247 (by decide +kernel) rfl
theorem wd_481 : Cond.code yX6_leastFitting cX6_leastFitting 2 (Option.some Jvm.ClassFile.FieldType.int) ∈ eb_ts := eb_mem 481 (by decide +kernel) rfl
theorem wd_489 : Cond.code yX6_look cX6_look 8 (Option.some Jvm.ClassFile.FieldType.int) ∈ eb_ts := eb_mem 489 (by decide +kernel) rfl
theorem wd_666 : Cond.code yX6_note cX6_note 3 (Option.some Jvm.ClassFile.FieldType.int) ∈ eb_ts := eb_mem 666 (by decide +kernel) rfl
theorem wd_408 : Cond.code yX7_become cX7_become 2 (Option.none : Option Jvm.ClassFile.FieldType) ∈ eb_ts := eb_mem 408 (by decide +kernel) rfl
theorem wd_53 : Cond.initialized RX7 ∈ eb_ts := eb_mem 53 (by decide +kernel) rfl
theorem wd_534 : Cond.code yX7_hasEnd cX7_hasEnd 2 (Option.some Jvm.ClassFile.FieldType.boolean) ∈ eb_ts := eb_mem 534 (by decide +kernel) rfl
theorem wd_510 : Cond.code yX7_hasWord cX7_hasWord 2 (Option.some Jvm.ClassFile.FieldType.boolean) ∈ eb_ts := eb_mem 510 (by decide +kernel) rfl
theorem wd_77 : Cond.code yX7_init cX7_init 1 (Option.none : Option Jvm.ClassFile.FieldType) ∈ eb_ts := eb_mem 77 (by decide +kernel) rfl
theorem wd_568 : Cond.code yX7_putIn cX7_putIn 5 (Option.none : Option Jvm.ClassFile.FieldType) ∈ eb_ts := eb_mem 568 (by decide +kernel) rfl
theorem wd_412 : Cond.code yX7_setWords cX7_setWords 3 (Option.none : Option Jvm.ClassFile.FieldType) ∈ eb_ts := eb_mem 412 (by decide +kernel) rfl
theorem wd_577 : Cond.code yX7_takeOut cX7_takeOut 3 (Option.none : Option Jvm.ClassFile.FieldType) ∈ eb_ts := eb_mem 577 (by decide +kernel) rfl
theorem wd_380 : Cond.code yX8_add cX8_add 2 (Option.some Jvm.ClassFile.FieldType.int) ∈ eb_ts := eb_mem 380 (by decide +kernel) rfl
theorem wd_54 : Cond.initialized RX8 ∈ eb_ts := eb_mem 54 (by decide +kernel) rfl
theorem wd_397 : Cond.code yX8_addToWord cX8_addToWord 4 (Option.none : Option Jvm.ClassFile.FieldType) ∈ eb_ts := eb_mem 397 (by decide +kernel) rfl
theorem wd_393 : Cond.code yX8_faultOf cX8_faultOf 3 (Option.some Jvm.ClassFile.FieldType.int) ∈ eb_ts := eb_mem 393 (by decide +kernel) rfl
theorem wd_115 : Cond.code yX8_init cX8_init 1 (Option.none : Option Jvm.ClassFile.FieldType) ∈ eb_ts := eb_mem 115 (by decide +kernel) rfl
theorem wd_389 : Cond.code yX8_read cX8_read 5 (Option.some Jvm.ClassFile.FieldType.int) ∈ eb_ts := eb_mem 389 (by decide +kernel) rfl
theorem wd_654 : Cond.code yX9_best cX9_best 6 (Option.some Jvm.ClassFile.FieldType.int) ∈ eb_ts := eb_mem 654 (by decide +kernel) rfl
theorem wd_52 : Cond.initialized RX9 ∈ eb_ts := eb_mem 52 (by decide +kernel) rfl
theorem wd_554 : Cond.code yX9_change cX9_change 3 (Option.some Jvm.ClassFile.FieldType.int) ∈ eb_ts := eb_mem 554 (by decide +kernel) rfl
theorem wd_628 : Cond.code yX9_cost cX9_cost 3 (Option.some Jvm.ClassFile.FieldType.int) ∈ eb_ts := eb_mem 628 (by decide +kernel) rfl
theorem wd_598 : Cond.code yX9_drift cX9_drift 3 (Option.some Jvm.ClassFile.FieldType.int) ∈ eb_ts := eb_mem 598 (by decide +kernel) rfl
theorem wd_602 : Cond.code yX9_driftOnce cX9_driftOnce 3 (Option.none : Option Jvm.ClassFile.FieldType) ∈ eb_ts := eb_mem 602 (by decide +kernel) rfl
theorem wd_530 : Cond.code yX9_end cX9_end 3 (Option.some Jvm.ClassFile.FieldType.int) ∈ eb_ts := eb_mem 530 (by decide +kernel) rfl
theorem wd_423 : Cond.code yX9_fault cX9_fault 1 (Option.some Jvm.ClassFile.FieldType.int) ∈ eb_ts := eb_mem 423 (by decide +kernel) rfl
theorem wd_590 : Cond.code yX9_fee cX9_fee 2 (Option.some Jvm.ClassFile.FieldType.int) ∈ eb_ts := eb_mem 590 (by decide +kernel) rfl
theorem wd_375 : Cond.code yX9_feed cX9_feed 2 (Option.some Jvm.ClassFile.FieldType.int) ∈ eb_ts := eb_mem 375 (by decide +kernel) rfl
theorem wd_632 : Cond.code yX9_first cX9_first 2 (Option.some Jvm.ClassFile.FieldType.int) ∈ eb_ts := eb_mem 632 (by decide +kernel) rfl
theorem wd_594 : Cond.code yX9_free cX9_free 2 (Option.some Jvm.ClassFile.FieldType.int) ∈ eb_ts := eb_mem 594 (by decide +kernel) rfl
theorem wd_697 : Cond.code yX9_goBack cX9_goBack 2 (Option.some Jvm.ClassFile.FieldType.int) ∈ eb_ts := eb_mem 697 (by decide +kernel) rfl
theorem wd_521 : Cond.code yX9_grows cX9_grows 3 (Option.some Jvm.ClassFile.FieldType.int) ∈ eb_ts := eb_mem 521 (by decide +kernel) rfl
theorem wd_69 : Cond.code yX9_init cX9_init 3 (Option.none : Option Jvm.ClassFile.FieldType) ∈ eb_ts := eb_mem 69 (by decide +kernel) rfl
theorem wd_563 : Cond.code yX9_insert cX9_insert 3 (Option.some Jvm.ClassFile.FieldType.int) ∈ eb_ts := eb_mem 563 (by decide +kernel) rfl
theorem wd_692 : Cond.code yX9_keep cX9_keep 2 (Option.some Jvm.ClassFile.FieldType.int) ∈ eb_ts := eb_mem 692 (by decide +kernel) rfl
theorem wd_636 : Cond.code yX9_known cX9_known 3 (Option.some Jvm.ClassFile.FieldType.int) ∈ eb_ts := eb_mem 636 (by decide +kernel) rfl
theorem wd_294 : Cond.code yX9_layAnew cX9_layAnew 1 (Option.none : Option Jvm.ClassFile.FieldType) ∈ eb_ts := eb_mem 294 (by decide +kernel) rfl
theorem wd_546 : Cond.code yX9_line cX9_line 5 (Option.some Jvm.ClassFile.FieldType.int) ∈ eb_ts := eb_mem 546 (by decide +kernel) rfl
theorem wd_582 : Cond.code yX9_measure cX9_measure 2 (Option.some Jvm.ClassFile.FieldType.int) ∈ eb_ts := eb_mem 582 (by decide +kernel) rfl
theorem wd_558 : Cond.code yX9_readOneWord cX9_readOneWord 2 (Option.some Jvm.ClassFile.FieldType.int) ∈ eb_ts := eb_mem 558 (by decide +kernel) rfl
theorem wd_586 : Cond.code yX9_rule cX9_rule 2 (Option.some Jvm.ClassFile.FieldType.int) ∈ eb_ts := eb_mem 586 (by decide +kernel) rfl
theorem wd_662 : Cond.code yX9_see cX9_see 3 (Option.some Jvm.ClassFile.FieldType.int) ∈ eb_ts := eb_mem 662 (by decide +kernel) rfl
theorem wd_688 : Cond.code yX9_seed cX9_seed 3 (Option.some Jvm.ClassFile.FieldType.int) ∈ eb_ts := eb_mem 688 (by decide +kernel) rfl
theorem wd_463 : Cond.code yX9_surveyed cX9_surveyed 1 (Option.some (Jvm.ClassFile.FieldType.object "EvenBreaks$Survey")) ∈ eb_ts := eb_mem 463 (by decide +kernel) rfl
theorem wd_190 : Cond.code yX9_tableOfRoots cX9_tableOfRoots 3 (Option.some (Jvm.ClassFile.FieldType.array Jvm.ClassFile.FieldType.int)) ∈ eb_ts := eb_mem 190 (by decide +kernel) rfl
theorem wd_573 : Cond.code yX9_take cX9_take 3 (Option.some Jvm.ClassFile.FieldType.int) ∈ eb_ts := eb_mem 573 (by decide +kernel) rfl
theorem wd_680 : Cond.code yX9_tear cX9_tear 2 (Option.some Jvm.ClassFile.FieldType.int) ∈ eb_ts := eb_mem 680 (by decide +kernel) rfl
theorem wd_427 : Cond.code yX9_told cX9_told 2 (Option.some Jvm.ClassFile.FieldType.int) ∈ eb_ts := eb_mem 427 (by decide +kernel) rfl
theorem wd_385 : Cond.code yX9_type cX9_type 2 (Option.some Jvm.ClassFile.FieldType.int) ∈ eb_ts := eb_mem 385 (by decide +kernel) rfl
theorem wd_620 : Cond.code yX9_undo cX9_undo 2 (Option.some Jvm.ClassFile.FieldType.int) ∈ eb_ts := eb_mem 620 (by decide +kernel) rfl
theorem wd_641 : Cond.code yX9_with cX9_with 2 (Option.some Jvm.ClassFile.FieldType.int) ∈ eb_ts := eb_mem 641 (by decide +kernel) rfl
theorem wd_506 : Cond.code yX9_word cX9_word 3 (Option.some Jvm.ClassFile.FieldType.int) ∈ eb_ts := eb_mem 506 (by decide +kernel) rfl
theorem wd_671 : Cond.code yX9_write cX9_write 3 (Option.some Jvm.ClassFile.FieldType.int) ∈ eb_ts := eb_mem 671 (by decide +kernel) rfl
theorem wd_65 : Cond.classLink RL 7 RX9 ∈ eb_ts := eb_mem 65 (by decide +kernel) rfl
theorem wd_66 : Cond.instantiable RX9 9 ∈ eb_ts := eb_mem 66 (by decide +kernel) rfl
theorem wd_68 : Cond.instanceMethod yX9_init ∈ eb_ts := eb_mem 68 (by decide +kernel) rfl
theorem wd_67 : Cond.methodLink RL 9 yX9_init ∈ eb_ts := eb_mem 67 (by decide +kernel) rfl
theorem wd_698 : Cond.classLink RL 10 RX10 ∈ eb_ts := eb_mem 698 (by decide +kernel) rfl
theorem wd_699 : Cond.instantiable RX10 29 ∈ eb_ts := eb_mem 699 (by decide +kernel) rfl
theorem wd_701 : Cond.instanceMethod yX10_init ∈ eb_ts := eb_mem 701 (by decide +kernel) rfl
theorem wd_700 : Cond.methodLink RL 12 yX10_init ∈ eb_ts := eb_mem 700 (by decide +kernel) rfl
theorem wd_372 : Cond.methodLink RL 13 yX9_feed ∈ eb_ts := eb_mem 372 (by decide +kernel) rfl
theorem wd_373 : Cond.instanceMethod yX9_feed ∈ eb_ts := eb_mem 373 (by decide +kernel) rfl
theorem wd_374 : Cond.selects RX9 yX9_feed yX9_feed ∈ eb_ts := eb_mem 374 (by decide +kernel) rfl
theorem wd_793 : Cond.methodLink RL 17 yX10_feed ∈ eb_ts := eb_mem 793 (by decide +kernel) rfl
theorem wd_794 : Cond.instanceMethod yX10_feed ∈ eb_ts := eb_mem 794 (by decide +kernel) rfl
theorem wd_795 : Cond.selects RX10 yX10_feed yX10_feed ∈ eb_ts := eb_mem 795 (by decide +kernel) rfl
theorem wd_382 : Cond.methodLink RL 18 yX9_type ∈ eb_ts := eb_mem 382 (by decide +kernel) rfl
theorem wd_383 : Cond.instanceMethod yX9_type ∈ eb_ts := eb_mem 383 (by decide +kernel) rfl
theorem wd_384 : Cond.selects RX9 yX9_type yX9_type ∈ eb_ts := eb_mem 384 (by decide +kernel) rfl
theorem wd_803 : Cond.methodLink RL 22 yX10_type ∈ eb_ts := eb_mem 803 (by decide +kernel) rfl
theorem wd_804 : Cond.instanceMethod yX10_type ∈ eb_ts := eb_mem 804 (by decide +kernel) rfl
theorem wd_805 : Cond.selects RX10 yX10_type yX10_type ∈ eb_ts := eb_mem 805 (by decide +kernel) rfl
theorem wd_420 : Cond.methodLink RL 23 yX9_fault ∈ eb_ts := eb_mem 420 (by decide +kernel) rfl
theorem wd_421 : Cond.instanceMethod yX9_fault ∈ eb_ts := eb_mem 421 (by decide +kernel) rfl
theorem wd_422 : Cond.selects RX9 yX9_fault yX9_fault ∈ eb_ts := eb_mem 422 (by decide +kernel) rfl
theorem wd_829 : Cond.methodLink RL 26 yX10_fault ∈ eb_ts := eb_mem 829 (by decide +kernel) rfl
theorem wd_830 : Cond.instanceMethod yX10_fault ∈ eb_ts := eb_mem 830 (by decide +kernel) rfl
theorem wd_831 : Cond.selects RX10 yX10_fault yX10_fault ∈ eb_ts := eb_mem 831 (by decide +kernel) rfl
theorem wd_424 : Cond.methodLink RL 27 yX9_told ∈ eb_ts := eb_mem 424 (by decide +kernel) rfl
theorem wd_425 : Cond.instanceMethod yX9_told ∈ eb_ts := eb_mem 425 (by decide +kernel) rfl
theorem wd_426 : Cond.selects RX9 yX9_told yX9_told ∈ eb_ts := eb_mem 426 (by decide +kernel) rfl
theorem wd_1035 : Cond.methodLink RL 30 yX10_told ∈ eb_ts := eb_mem 1035 (by decide +kernel) rfl
theorem wd_1036 : Cond.instanceMethod yX10_told ∈ eb_ts := eb_mem 1036 (by decide +kernel) rfl
theorem wd_1037 : Cond.selects RX10 yX10_told yX10_told ∈ eb_ts := eb_mem 1037 (by decide +kernel) rfl
theorem wd_503 : Cond.methodLink RL 31 yX9_word ∈ eb_ts := eb_mem 503 (by decide +kernel) rfl
theorem wd_504 : Cond.instanceMethod yX9_word ∈ eb_ts := eb_mem 504 (by decide +kernel) rfl
theorem wd_505 : Cond.selects RX9 yX9_word yX9_word ∈ eb_ts := eb_mem 505 (by decide +kernel) rfl
theorem wd_833 : Cond.methodLink RL 35 yX10_word ∈ eb_ts := eb_mem 833 (by decide +kernel) rfl
theorem wd_834 : Cond.instanceMethod yX10_word ∈ eb_ts := eb_mem 834 (by decide +kernel) rfl
theorem wd_835 : Cond.selects RX10 yX10_word yX10_word ∈ eb_ts := eb_mem 835 (by decide +kernel) rfl
theorem wd_527 : Cond.methodLink RL 36 yX9_end ∈ eb_ts := eb_mem 527 (by decide +kernel) rfl
theorem wd_528 : Cond.instanceMethod yX9_end ∈ eb_ts := eb_mem 528 (by decide +kernel) rfl
theorem wd_529 : Cond.selects RX9 yX9_end yX9_end ∈ eb_ts := eb_mem 529 (by decide +kernel) rfl
theorem wd_897 : Cond.methodLink RL 39 yX10_end ∈ eb_ts := eb_mem 897 (by decide +kernel) rfl
theorem wd_898 : Cond.instanceMethod yX10_end ∈ eb_ts := eb_mem 898 (by decide +kernel) rfl
theorem wd_899 : Cond.selects RX10 yX10_end yX10_end ∈ eb_ts := eb_mem 899 (by decide +kernel) rfl
theorem wd_543 : Cond.methodLink RL 40 yX9_line ∈ eb_ts := eb_mem 543 (by decide +kernel) rfl
theorem wd_544 : Cond.instanceMethod yX9_line ∈ eb_ts := eb_mem 544 (by decide +kernel) rfl
theorem wd_545 : Cond.selects RX9 yX9_line yX9_line ∈ eb_ts := eb_mem 545 (by decide +kernel) rfl
theorem wd_914 : Cond.methodLink RL 43 yX10_line ∈ eb_ts := eb_mem 914 (by decide +kernel) rfl
theorem wd_915 : Cond.instanceMethod yX10_line ∈ eb_ts := eb_mem 915 (by decide +kernel) rfl
theorem wd_916 : Cond.selects RX10 yX10_line yX10_line ∈ eb_ts := eb_mem 916 (by decide +kernel) rfl
theorem wd_551 : Cond.methodLink RL 44 yX9_change ∈ eb_ts := eb_mem 551 (by decide +kernel) rfl
theorem wd_552 : Cond.instanceMethod yX9_change ∈ eb_ts := eb_mem 552 (by decide +kernel) rfl
theorem wd_553 : Cond.selects RX9 yX9_change yX9_change ∈ eb_ts := eb_mem 553 (by decide +kernel) rfl
theorem wd_922 : Cond.methodLink RL 47 yX10_change ∈ eb_ts := eb_mem 922 (by decide +kernel) rfl
theorem wd_923 : Cond.instanceMethod yX10_change ∈ eb_ts := eb_mem 923 (by decide +kernel) rfl
theorem wd_924 : Cond.selects RX10 yX10_change yX10_change ∈ eb_ts := eb_mem 924 (by decide +kernel) rfl
theorem wd_560 : Cond.methodLink RL 48 yX9_insert ∈ eb_ts := eb_mem 560 (by decide +kernel) rfl
theorem wd_561 : Cond.instanceMethod yX9_insert ∈ eb_ts := eb_mem 561 (by decide +kernel) rfl
theorem wd_562 : Cond.selects RX9 yX9_insert yX9_insert ∈ eb_ts := eb_mem 562 (by decide +kernel) rfl
theorem wd_931 : Cond.methodLink RL 51 yX10_insert ∈ eb_ts := eb_mem 931 (by decide +kernel) rfl
theorem wd_932 : Cond.instanceMethod yX10_insert ∈ eb_ts := eb_mem 932 (by decide +kernel) rfl
theorem wd_933 : Cond.selects RX10 yX10_insert yX10_insert ∈ eb_ts := eb_mem 933 (by decide +kernel) rfl
theorem wd_570 : Cond.methodLink RL 52 yX9_take ∈ eb_ts := eb_mem 570 (by decide +kernel) rfl
theorem wd_571 : Cond.instanceMethod yX9_take ∈ eb_ts := eb_mem 571 (by decide +kernel) rfl
theorem wd_572 : Cond.selects RX9 yX9_take yX9_take ∈ eb_ts := eb_mem 572 (by decide +kernel) rfl
theorem wd_943 : Cond.methodLink RL 55 yX10_take ∈ eb_ts := eb_mem 943 (by decide +kernel) rfl
theorem wd_944 : Cond.instanceMethod yX10_take ∈ eb_ts := eb_mem 944 (by decide +kernel) rfl
theorem wd_945 : Cond.selects RX10 yX10_take yX10_take ∈ eb_ts := eb_mem 945 (by decide +kernel) rfl
theorem wd_579 : Cond.methodLink RL 56 yX9_measure ∈ eb_ts := eb_mem 579 (by decide +kernel) rfl
theorem wd_580 : Cond.instanceMethod yX9_measure ∈ eb_ts := eb_mem 580 (by decide +kernel) rfl
theorem wd_581 : Cond.selects RX9 yX9_measure yX9_measure ∈ eb_ts := eb_mem 581 (by decide +kernel) rfl
theorem wd_947 : Cond.methodLink RL 59 yX10_measure ∈ eb_ts := eb_mem 947 (by decide +kernel) rfl
theorem wd_948 : Cond.instanceMethod yX10_measure ∈ eb_ts := eb_mem 948 (by decide +kernel) rfl
theorem wd_949 : Cond.selects RX10 yX10_measure yX10_measure ∈ eb_ts := eb_mem 949 (by decide +kernel) rfl
theorem wd_583 : Cond.methodLink RL 60 yX9_rule ∈ eb_ts := eb_mem 583 (by decide +kernel) rfl
theorem wd_584 : Cond.instanceMethod yX9_rule ∈ eb_ts := eb_mem 584 (by decide +kernel) rfl
theorem wd_585 : Cond.selects RX9 yX9_rule yX9_rule ∈ eb_ts := eb_mem 585 (by decide +kernel) rfl
theorem wd_959 : Cond.methodLink RL 63 yX10_rule ∈ eb_ts := eb_mem 959 (by decide +kernel) rfl
theorem wd_960 : Cond.instanceMethod yX10_rule ∈ eb_ts := eb_mem 960 (by decide +kernel) rfl
theorem wd_961 : Cond.selects RX10 yX10_rule yX10_rule ∈ eb_ts := eb_mem 961 (by decide +kernel) rfl
theorem wd_587 : Cond.methodLink RL 64 yX9_fee ∈ eb_ts := eb_mem 587 (by decide +kernel) rfl
theorem wd_588 : Cond.instanceMethod yX9_fee ∈ eb_ts := eb_mem 588 (by decide +kernel) rfl
theorem wd_589 : Cond.selects RX9 yX9_fee yX9_fee ∈ eb_ts := eb_mem 589 (by decide +kernel) rfl
theorem wd_963 : Cond.methodLink RL 67 yX10_fee ∈ eb_ts := eb_mem 963 (by decide +kernel) rfl
theorem wd_964 : Cond.instanceMethod yX10_fee ∈ eb_ts := eb_mem 964 (by decide +kernel) rfl
theorem wd_965 : Cond.selects RX10 yX10_fee yX10_fee ∈ eb_ts := eb_mem 965 (by decide +kernel) rfl
theorem wd_591 : Cond.methodLink RL 68 yX9_free ∈ eb_ts := eb_mem 591 (by decide +kernel) rfl
theorem wd_592 : Cond.instanceMethod yX9_free ∈ eb_ts := eb_mem 592 (by decide +kernel) rfl
theorem wd_593 : Cond.selects RX9 yX9_free yX9_free ∈ eb_ts := eb_mem 593 (by decide +kernel) rfl
theorem wd_967 : Cond.methodLink RL 72 yX10_free ∈ eb_ts := eb_mem 967 (by decide +kernel) rfl
theorem wd_968 : Cond.instanceMethod yX10_free ∈ eb_ts := eb_mem 968 (by decide +kernel) rfl
theorem wd_969 : Cond.selects RX10 yX10_free yX10_free ∈ eb_ts := eb_mem 969 (by decide +kernel) rfl
theorem wd_595 : Cond.methodLink RL 73 yX9_drift ∈ eb_ts := eb_mem 595 (by decide +kernel) rfl
theorem wd_596 : Cond.instanceMethod yX9_drift ∈ eb_ts := eb_mem 596 (by decide +kernel) rfl
theorem wd_597 : Cond.selects RX9 yX9_drift yX9_drift ∈ eb_ts := eb_mem 597 (by decide +kernel) rfl
theorem wd_971 : Cond.methodLink RL 76 yX10_drift ∈ eb_ts := eb_mem 971 (by decide +kernel) rfl
theorem wd_972 : Cond.instanceMethod yX10_drift ∈ eb_ts := eb_mem 972 (by decide +kernel) rfl
theorem wd_973 : Cond.selects RX10 yX10_drift yX10_drift ∈ eb_ts := eb_mem 973 (by decide +kernel) rfl
theorem wd_617 : Cond.methodLink RL 77 yX9_undo ∈ eb_ts := eb_mem 617 (by decide +kernel) rfl
theorem wd_618 : Cond.instanceMethod yX9_undo ∈ eb_ts := eb_mem 618 (by decide +kernel) rfl
theorem wd_619 : Cond.selects RX9 yX9_undo yX9_undo ∈ eb_ts := eb_mem 619 (by decide +kernel) rfl
theorem wd_984 : Cond.methodLink RL 80 yX10_undo ∈ eb_ts := eb_mem 984 (by decide +kernel) rfl
theorem wd_985 : Cond.instanceMethod yX10_undo ∈ eb_ts := eb_mem 985 (by decide +kernel) rfl
theorem wd_986 : Cond.selects RX10 yX10_undo yX10_undo ∈ eb_ts := eb_mem 986 (by decide +kernel) rfl
theorem wd_625 : Cond.methodLink RL 81 yX9_cost ∈ eb_ts := eb_mem 625 (by decide +kernel) rfl
theorem wd_626 : Cond.instanceMethod yX9_cost ∈ eb_ts := eb_mem 626 (by decide +kernel) rfl
theorem wd_627 : Cond.selects RX9 yX9_cost yX9_cost ∈ eb_ts := eb_mem 627 (by decide +kernel) rfl
theorem wd_918 : Cond.methodLink RL 84 yX10_cost ∈ eb_ts := eb_mem 918 (by decide +kernel) rfl
theorem wd_919 : Cond.instanceMethod yX10_cost ∈ eb_ts := eb_mem 919 (by decide +kernel) rfl
theorem wd_920 : Cond.selects RX10 yX10_cost yX10_cost ∈ eb_ts := eb_mem 920 (by decide +kernel) rfl
theorem wd_629 : Cond.methodLink RL 85 yX9_first ∈ eb_ts := eb_mem 629 (by decide +kernel) rfl
theorem wd_630 : Cond.instanceMethod yX9_first ∈ eb_ts := eb_mem 630 (by decide +kernel) rfl
theorem wd_631 : Cond.selects RX9 yX9_first yX9_first ∈ eb_ts := eb_mem 631 (by decide +kernel) rfl
theorem wd_988 : Cond.methodLink RL 88 yX10_first ∈ eb_ts := eb_mem 988 (by decide +kernel) rfl
theorem wd_989 : Cond.instanceMethod yX10_first ∈ eb_ts := eb_mem 989 (by decide +kernel) rfl
theorem wd_990 : Cond.selects RX10 yX10_first yX10_first ∈ eb_ts := eb_mem 990 (by decide +kernel) rfl
theorem wd_633 : Cond.methodLink RL 89 yX9_known ∈ eb_ts := eb_mem 633 (by decide +kernel) rfl
theorem wd_634 : Cond.instanceMethod yX9_known ∈ eb_ts := eb_mem 634 (by decide +kernel) rfl
theorem wd_635 : Cond.selects RX9 yX9_known yX9_known ∈ eb_ts := eb_mem 635 (by decide +kernel) rfl
theorem wd_996 : Cond.methodLink RL 92 yX10_known ∈ eb_ts := eb_mem 996 (by decide +kernel) rfl
theorem wd_997 : Cond.instanceMethod yX10_known ∈ eb_ts := eb_mem 997 (by decide +kernel) rfl
theorem wd_998 : Cond.selects RX10 yX10_known yX10_known ∈ eb_ts := eb_mem 998 (by decide +kernel) rfl
theorem wd_638 : Cond.methodLink RL 93 yX9_with ∈ eb_ts := eb_mem 638 (by decide +kernel) rfl
theorem wd_639 : Cond.instanceMethod yX9_with ∈ eb_ts := eb_mem 639 (by decide +kernel) rfl
theorem wd_640 : Cond.selects RX9 yX9_with yX9_with ∈ eb_ts := eb_mem 640 (by decide +kernel) rfl
theorem wd_1000 : Cond.methodLink RL 96 yX10_with ∈ eb_ts := eb_mem 1000 (by decide +kernel) rfl
theorem wd_1001 : Cond.instanceMethod yX10_with ∈ eb_ts := eb_mem 1001 (by decide +kernel) rfl
theorem wd_1002 : Cond.selects RX10 yX10_with yX10_with ∈ eb_ts := eb_mem 1002 (by decide +kernel) rfl
theorem wd_651 : Cond.methodLink RL 97 yX9_best ∈ eb_ts := eb_mem 651 (by decide +kernel) rfl
theorem wd_652 : Cond.instanceMethod yX9_best ∈ eb_ts := eb_mem 652 (by decide +kernel) rfl
theorem wd_653 : Cond.selects RX9 yX9_best yX9_best ∈ eb_ts := eb_mem 653 (by decide +kernel) rfl
theorem wd_1005 : Cond.methodLink RL 101 yX10_best ∈ eb_ts := eb_mem 1005 (by decide +kernel) rfl
theorem wd_1006 : Cond.instanceMethod yX10_best ∈ eb_ts := eb_mem 1006 (by decide +kernel) rfl
theorem wd_1007 : Cond.selects RX10 yX10_best yX10_best ∈ eb_ts := eb_mem 1007 (by decide +kernel) rfl
theorem wd_659 : Cond.methodLink RL 102 yX9_see ∈ eb_ts := eb_mem 659 (by decide +kernel) rfl
theorem wd_660 : Cond.instanceMethod yX9_see ∈ eb_ts := eb_mem 660 (by decide +kernel) rfl
theorem wd_661 : Cond.selects RX9 yX9_see yX9_see ∈ eb_ts := eb_mem 661 (by decide +kernel) rfl
theorem wd_1010 : Cond.methodLink RL 106 yX10_see ∈ eb_ts := eb_mem 1010 (by decide +kernel) rfl
theorem wd_1011 : Cond.instanceMethod yX10_see ∈ eb_ts := eb_mem 1011 (by decide +kernel) rfl
theorem wd_1012 : Cond.selects RX10 yX10_see yX10_see ∈ eb_ts := eb_mem 1012 (by decide +kernel) rfl
theorem wd_668 : Cond.methodLink RL 107 yX9_write ∈ eb_ts := eb_mem 668 (by decide +kernel) rfl
theorem wd_669 : Cond.instanceMethod yX9_write ∈ eb_ts := eb_mem 669 (by decide +kernel) rfl
theorem wd_670 : Cond.selects RX9 yX9_write yX9_write ∈ eb_ts := eb_mem 670 (by decide +kernel) rfl
theorem wd_1014 : Cond.methodLink RL 110 yX10_write ∈ eb_ts := eb_mem 1014 (by decide +kernel) rfl
theorem wd_1015 : Cond.instanceMethod yX10_write ∈ eb_ts := eb_mem 1015 (by decide +kernel) rfl
theorem wd_1016 : Cond.selects RX10 yX10_write yX10_write ∈ eb_ts := eb_mem 1016 (by decide +kernel) rfl
theorem wd_677 : Cond.methodLink RL 111 yX9_tear ∈ eb_ts := eb_mem 677 (by decide +kernel) rfl
theorem wd_678 : Cond.instanceMethod yX9_tear ∈ eb_ts := eb_mem 678 (by decide +kernel) rfl
theorem wd_679 : Cond.selects RX9 yX9_tear yX9_tear ∈ eb_ts := eb_mem 679 (by decide +kernel) rfl
theorem wd_1019 : Cond.methodLink RL 114 yX10_tear ∈ eb_ts := eb_mem 1019 (by decide +kernel) rfl
theorem wd_1020 : Cond.instanceMethod yX10_tear ∈ eb_ts := eb_mem 1020 (by decide +kernel) rfl
theorem wd_1021 : Cond.selects RX10 yX10_tear yX10_tear ∈ eb_ts := eb_mem 1021 (by decide +kernel) rfl
theorem wd_685 : Cond.methodLink RL 115 yX9_seed ∈ eb_ts := eb_mem 685 (by decide +kernel) rfl
theorem wd_686 : Cond.instanceMethod yX9_seed ∈ eb_ts := eb_mem 686 (by decide +kernel) rfl
theorem wd_687 : Cond.selects RX9 yX9_seed yX9_seed ∈ eb_ts := eb_mem 687 (by decide +kernel) rfl
theorem wd_1023 : Cond.methodLink RL 118 yX10_seed ∈ eb_ts := eb_mem 1023 (by decide +kernel) rfl
theorem wd_1024 : Cond.instanceMethod yX10_seed ∈ eb_ts := eb_mem 1024 (by decide +kernel) rfl
theorem wd_1025 : Cond.selects RX10 yX10_seed yX10_seed ∈ eb_ts := eb_mem 1025 (by decide +kernel) rfl
theorem wd_689 : Cond.methodLink RL 119 yX9_keep ∈ eb_ts := eb_mem 689 (by decide +kernel) rfl
theorem wd_690 : Cond.instanceMethod yX9_keep ∈ eb_ts := eb_mem 690 (by decide +kernel) rfl
theorem wd_691 : Cond.selects RX9 yX9_keep yX9_keep ∈ eb_ts := eb_mem 691 (by decide +kernel) rfl
theorem wd_1027 : Cond.methodLink RL 122 yX10_keep ∈ eb_ts := eb_mem 1027 (by decide +kernel) rfl
theorem wd_1028 : Cond.instanceMethod yX10_keep ∈ eb_ts := eb_mem 1028 (by decide +kernel) rfl
theorem wd_1029 : Cond.selects RX10 yX10_keep yX10_keep ∈ eb_ts := eb_mem 1029 (by decide +kernel) rfl
theorem wd_694 : Cond.methodLink RL 123 yX9_goBack ∈ eb_ts := eb_mem 694 (by decide +kernel) rfl
theorem wd_695 : Cond.instanceMethod yX9_goBack ∈ eb_ts := eb_mem 695 (by decide +kernel) rfl
theorem wd_696 : Cond.selects RX9 yX9_goBack yX9_goBack ∈ eb_ts := eb_mem 696 (by decide +kernel) rfl
theorem wd_1031 : Cond.methodLink RL 126 yX10_goBack ∈ eb_ts := eb_mem 1031 (by decide +kernel) rfl
theorem wd_1032 : Cond.instanceMethod yX10_goBack ∈ eb_ts := eb_mem 1032 (by decide +kernel) rfl
theorem wd_1033 : Cond.selects RX10 yX10_goBack yX10_goBack ∈ eb_ts := eb_mem 1033 (by decide +kernel) rfl
theorem wd_179 : Cond.fieldLink RX0 18 RX0 "count" "I" ∈ eb_ts := eb_mem 179 (by decide +kernel) rfl
theorem wd_676 : Cond.constant RX0 22 (-1000000004) ∈ eb_ts := eb_mem 676 (by decide +kernel) rfl
theorem wd_177 : Cond.fieldLink RX0 9 RX0 "lineOf" "[I" ∈ eb_ts := eb_mem 177 (by decide +kernel) rfl
theorem wd_178 : Cond.fieldLink RX0 15 RX0 "beginOf" "[I" ∈ eb_ts := eb_mem 178 (by decide +kernel) rfl
theorem wd_502 : Cond.methodLink RX0 23 yX3_beginOf ∈ eb_ts := eb_mem 502 (by decide +kernel) rfl
theorem wd_449 : Cond.instanceMethod yX3_beginOf ∈ eb_ts := eb_mem 449 (by decide +kernel) rfl
theorem wd_450 : Cond.selects RX3 yX3_beginOf yX3_beginOf ∈ eb_ts := eb_mem 450 (by decide +kernel) rfl
theorem wd_176 : Cond.methodLink RX0 3 objectInit ∈ eb_ts := eb_mem 176 (by decide +kernel) rfl
theorem wd_137 : Cond.arrayClass .int ∈ eb_ts := eb_mem 137 (by decide +kernel) rfl
theorem wd_798 : Cond.methodLink RX10 70 yX10_in ∈ eb_ts := eb_mem 798 (by decide +kernel) rfl
theorem wd_799 : Cond.static yX10_in ∈ eb_ts := eb_mem 799 (by decide +kernel) rfl
theorem wd_801 : Cond.constant RX10 76 (-1000000002) ∈ eb_ts := eb_mem 801 (by decide +kernel) rfl
theorem wd_817 : Cond.methodLink RX10 99 yX10_note ∈ eb_ts := eb_mem 817 (by decide +kernel) rfl
theorem wd_819 : Cond.instanceMethod yX10_note ∈ eb_ts := eb_mem 819 (by decide +kernel) rfl
theorem wd_20 : Cond.selects RX10 yX10_note yX10_note ∈ eb_ts := eb_mem 20 (by decide +kernel) rfl
theorem wd_704 : Cond.fieldLink RX10 7 RX10 "st" "[I" ∈ eb_ts := eb_mem 704 (by decide +kernel) rfl
theorem wd_955 : Cond.methodLink RX10 187 yX10_total ∈ eb_ts := eb_mem 955 (by decide +kernel) rfl
theorem wd_957 : Cond.instanceMethod yX10_total ∈ eb_ts := eb_mem 957 (by decide +kernel) rfl
theorem wd_42 : Cond.selects RX10 yX10_total yX10_total ∈ eb_ts := eb_mem 42 (by decide +kernel) rfl
theorem wd_720 : Cond.fieldLink RX10 140 RX10 "linesMany" "I" ∈ eb_ts := eb_mem 720 (by decide +kernel) rfl
theorem wd_719 : Cond.fieldLink RX10 40 RX10 "begins" "[I" ∈ eb_ts := eb_mem 719 (by decide +kernel) rfl
theorem wd_1009 : Cond.constantLong RX10 214 200 ∈ eb_ts := eb_mem 1009 (by decide +kernel) rfl
theorem wd_862 : Cond.methodLink RX10 131 yX10_measureWords ∈ eb_ts := eb_mem 862 (by decide +kernel) rfl
theorem wd_864 : Cond.instanceMethod yX10_measureWords ∈ eb_ts := eb_mem 864 (by decide +kernel) rfl
theorem wd_28 : Cond.selects RX10 yX10_measureWords yX10_measureWords ∈ eb_ts := eb_mem 28 (by decide +kernel) rfl
theorem wd_870 : Cond.constant RX10 126 2000000000 ∈ eb_ts := eb_mem 870 (by decide +kernel) rfl
theorem wd_866 : Cond.methodLink RX10 134 yX10_layBy ∈ eb_ts := eb_mem 866 (by decide +kernel) rfl
theorem wd_868 : Cond.instanceMethod yX10_layBy ∈ eb_ts := eb_mem 868 (by decide +kernel) rfl
theorem wd_29 : Cond.selects RX10 yX10_layBy yX10_layBy ∈ eb_ts := eb_mem 29 (by decide +kernel) rfl
theorem wd_717 : Cond.fieldLink RX10 34 RX10 "totals" "[I" ∈ eb_ts := eb_mem 717 (by decide +kernel) rfl
theorem wd_718 : Cond.fieldLink RX10 37 RX10 "owners" "[I" ∈ eb_ts := eb_mem 718 (by decide +kernel) rfl
theorem wd_837 : Cond.methodLink RX10 153 yX10_isWord ∈ eb_ts := eb_mem 837 (by decide +kernel) rfl
theorem wd_839 : Cond.instanceMethod yX10_isWord ∈ eb_ts := eb_mem 839 (by decide +kernel) rfl
theorem wd_23 : Cond.selects RX10 yX10_isWord yX10_isWord ∈ eb_ts := eb_mem 23 (by decide +kernel) rfl
theorem wd_841 : Cond.constant RX10 157 (-1000000001) ∈ eb_ts := eb_mem 841 (by decide +kernel) rfl
theorem wd_926 : Cond.methodLink RX10 178 yX10_readOne ∈ eb_ts := eb_mem 926 (by decide +kernel) rfl
theorem wd_928 : Cond.instanceMethod yX10_readOne ∈ eb_ts := eb_mem 928 (by decide +kernel) rfl
theorem wd_38 : Cond.selects RX10 yX10_readOne yX10_readOne ∈ eb_ts := eb_mem 38 (by decide +kernel) rfl
theorem wd_821 : Cond.methodLink RX10 102 yX10_takeWord ∈ eb_ts := eb_mem 821 (by decide +kernel) rfl
theorem wd_823 : Cond.instanceMethod yX10_takeWord ∈ eb_ts := eb_mem 823 (by decide +kernel) rfl
theorem wd_21 : Cond.selects RX10 yX10_takeWord yX10_takeWord ∈ eb_ts := eb_mem 21 (by decide +kernel) rfl
theorem wd_843 : Cond.methodLink RX10 123 yX10_wordWidth ∈ eb_ts := eb_mem 843 (by decide +kernel) rfl
theorem wd_845 : Cond.instanceMethod yX10_wordWidth ∈ eb_ts := eb_mem 845 (by decide +kernel) rfl
theorem wd_24 : Cond.selects RX10 yX10_wordWidth yX10_wordWidth ∈ eb_ts := eb_mem 24 (by decide +kernel) rfl
theorem wd_901 : Cond.methodLink RX10 169 yX10_isEnd ∈ eb_ts := eb_mem 901 (by decide +kernel) rfl
theorem wd_903 : Cond.instanceMethod yX10_isEnd ∈ eb_ts := eb_mem 903 (by decide +kernel) rfl
theorem wd_35 : Cond.selects RX10 yX10_isEnd yX10_isEnd ∈ eb_ts := eb_mem 35 (by decide +kernel) rfl
theorem wd_858 : Cond.methodLink RX10 137 yX10_lay ∈ eb_ts := eb_mem 858 (by decide +kernel) rfl
theorem wd_860 : Cond.instanceMethod yX10_lay ∈ eb_ts := eb_mem 860 (by decide +kernel) rfl
theorem wd_27 : Cond.selects RX10 yX10_lay yX10_lay ∈ eb_ts := eb_mem 27 (by decide +kernel) rfl
theorem wd_716 : Cond.fieldLink RX10 31 RX10 "costs" "[I" ∈ eb_ts := eb_mem 716 (by decide +kernel) rfl
theorem wd_882 : Cond.methodLink RX10 114 yX10_root ∈ eb_ts := eb_mem 882 (by decide +kernel) rfl
theorem wd_883 : Cond.static yX10_root ∈ eb_ts := eb_mem 883 (by decide +kernel) rfl
theorem wd_875 : Cond.methodLink RX10 117 yX10_lineWidth ∈ eb_ts := eb_mem 875 (by decide +kernel) rfl
theorem wd_877 : Cond.instanceMethod yX10_lineWidth ∈ eb_ts := eb_mem 877 (by decide +kernel) rfl
theorem wd_31 : Cond.selects RX10 yX10_lineWidth yX10_lineWidth ∈ eb_ts := eb_mem 31 (by decide +kernel) rfl
theorem wd_879 : Cond.methodLink RX10 120 yX10_costBy ∈ eb_ts := eb_mem 879 (by decide +kernel) rfl
theorem wd_880 : Cond.static yX10_costBy ∈ eb_ts := eb_mem 880 (by decide +kernel) rfl
theorem wd_707 : Cond.fieldLink RX10 194 RX10 "seed" "I" ∈ eb_ts := eb_mem 707 (by decide +kernel) rfl
theorem wd_980 : Cond.constantLong RX10 197 1103515245 ∈ eb_ts := eb_mem 980 (by decide +kernel) rfl
theorem wd_981 : Cond.constantLong RX10 199 12345 ∈ eb_ts := eb_mem 981 (by decide +kernel) rfl
theorem wd_982 : Cond.constantLong RX10 201 2147483647 ∈ eb_ts := eb_mem 982 (by decide +kernel) rfl
theorem wd_983 : Cond.constant RX10 203 65536 ∈ eb_ts := eb_mem 983 (by decide +kernel) rfl
theorem wd_975 : Cond.constantLong RX10 204 16 ∈ eb_ts := eb_mem 975 (by decide +kernel) rfl
theorem wd_711 : Cond.fieldLink RX10 19 RX10 "newSizes" "[I" ∈ eb_ts := eb_mem 711 (by decide +kernel) rfl
theorem wd_976 : Cond.methodLink RX10 206 yX10_drawOf ∈ eb_ts := eb_mem 976 (by decide +kernel) rfl
theorem wd_978 : Cond.instanceMethod yX10_drawOf ∈ eb_ts := eb_mem 978 (by decide +kernel) rfl
theorem wd_43 : Cond.selects RX10 yX10_drawOf yX10_drawOf ∈ eb_ts := eb_mem 43 (by decide +kernel) rfl
theorem wd_712 : Cond.fieldLink RX10 22 RX10 "newLetters" "[I" ∈ eb_ts := eb_mem 712 (by decide +kernel) rfl
theorem wd_935 : Cond.methodLink RX10 184 yX10_putIn ∈ eb_ts := eb_mem 935 (by decide +kernel) rfl
theorem wd_937 : Cond.instanceMethod yX10_putIn ∈ eb_ts := eb_mem 937 (by decide +kernel) rfl
theorem wd_39 : Cond.selects RX10 yX10_putIn yX10_putIn ∈ eb_ts := eb_mem 39 (by decide +kernel) rfl
theorem wd_905 : Cond.constantLong RX10 172 2 ∈ eb_ts := eb_mem 905 (by decide +kernel) rfl
theorem wd_906 : Cond.methodLink RX10 174 yX10_runsAt ∈ eb_ts := eb_mem 906 (by decide +kernel) rfl
theorem wd_908 : Cond.instanceMethod yX10_runsAt ∈ eb_ts := eb_mem 908 (by decide +kernel) rfl
theorem wd_36 : Cond.selects RX10 yX10_runsAt yX10_runsAt ∈ eb_ts := eb_mem 36 (by decide +kernel) rfl
theorem wd_710 : Cond.fieldLink RX10 66 RX10 "wrongAt" "I" ∈ eb_ts := eb_mem 710 (by decide +kernel) rfl
theorem wd_951 : Cond.methodLink RX10 190 yX10_becomes ∈ eb_ts := eb_mem 951 (by decide +kernel) rfl
theorem wd_953 : Cond.instanceMethod yX10_becomes ∈ eb_ts := eb_mem 953 (by decide +kernel) rfl
theorem wd_41 : Cond.selects RX10 yX10_becomes yX10_becomes ∈ eb_ts := eb_mem 41 (by decide +kernel) rfl
theorem wd_797 : Cond.constantLong RX10 74 255 ∈ eb_ts := eb_mem 797 (by decide +kernel) rfl
theorem wd_709 : Cond.fieldLink RX10 77 RX10 "typedMany" "I" ∈ eb_ts := eb_mem 709 (by decide +kernel) rfl
theorem wd_802 : Cond.constant RX10 80 (-1000000004) ∈ eb_ts := eb_mem 802 (by decide +kernel) rfl
theorem wd_708 : Cond.fieldLink RX10 16 RX10 "typed" "[I" ∈ eb_ts := eb_mem 708 (by decide +kernel) rfl
theorem wd_992 : Cond.methodLink RX10 209 yX10_firstOf ∈ eb_ts := eb_mem 992 (by decide +kernel) rfl
theorem wd_994 : Cond.instanceMethod yX10_firstOf ∈ eb_ts := eb_mem 994 (by decide +kernel) rfl
theorem wd_44 : Cond.selects RX10 yX10_firstOf yX10_firstOf ∈ eb_ts := eb_mem 44 (by decide +kernel) rfl
theorem wd_732 : Cond.fieldLink RX10 63 RX10 "isKept" "[Z" ∈ eb_ts := eb_mem 732 (by decide +kernel) rfl
theorem wd_930 : Cond.constant RX10 177 (-1000000003) ∈ eb_ts := eb_mem 930 (by decide +kernel) rfl
theorem wd_731 : Cond.fieldLink RX10 60 RX10 "images" "[I" ∈ eb_ts := eb_mem 731 (by decide +kernel) rfl
theorem wd_706 : Cond.fieldLink RX10 92 RX10 "undoMany" "I" ∈ eb_ts := eb_mem 706 (by decide +kernel) rfl
theorem wd_854 : Cond.methodLink RX10 146 yX10_layLines ∈ eb_ts := eb_mem 854 (by decide +kernel) rfl
theorem wd_856 : Cond.instanceMethod yX10_layLines ∈ eb_ts := eb_mem 856 (by decide +kernel) rfl
theorem wd_26 : Cond.selects RX10 yX10_layLines yX10_layLines ∈ eb_ts := eb_mem 26 (by decide +kernel) rfl
theorem wd_893 : Cond.methodLink RX10 149 yX10_beginSet ∈ eb_ts := eb_mem 893 (by decide +kernel) rfl
theorem wd_895 : Cond.instanceMethod yX10_beginSet ∈ eb_ts := eb_mem 895 (by decide +kernel) rfl
theorem wd_34 : Cond.selects RX10 yX10_beginSet yX10_beginSet ∈ eb_ts := eb_mem 34 (by decide +kernel) rfl
theorem wd_714 : Cond.fieldLink RX10 25 RX10 "wide" "[I" ∈ eb_ts := eb_mem 714 (by decide +kernel) rfl
theorem wd_885 : Cond.methodLink RX10 143 yX10_breakLines ∈ eb_ts := eb_mem 885 (by decide +kernel) rfl
theorem wd_887 : Cond.instanceMethod yX10_breakLines ∈ eb_ts := eb_mem 887 (by decide +kernel) rfl
theorem wd_32 : Cond.selects RX10 yX10_breakLines yX10_breakLines ∈ eb_ts := eb_mem 32 (by decide +kernel) rfl
theorem wd_703 : Cond.methodLink RX10 1 objectInit ∈ eb_ts := eb_mem 703 (by decide +kernel) rfl
theorem wd_705 : Cond.fieldLink RX10 13 RX10 "past" "[I" ∈ eb_ts := eb_mem 705 (by decide +kernel) rfl
theorem wd_715 : Cond.fieldLink RX10 28 RX10 "upTo" "[I" ∈ eb_ts := eb_mem 715 (by decide +kernel) rfl
theorem wd_721 : Cond.fieldLink RX10 43 RX10 "with" "[I" ∈ eb_ts := eb_mem 721 (by decide +kernel) rfl
theorem wd_722 : Cond.fieldLink RX10 46 RX10 "seen" "[I" ∈ eb_ts := eb_mem 722 (by decide +kernel) rfl
theorem wd_724 : Cond.fieldLink RX10 49 RX10 "book" "[I" ∈ eb_ts := eb_mem 724 (by decide +kernel) rfl
theorem wd_110 : Cond.arrayClass .long ∈ eb_ts := eb_mem 110 (by decide +kernel) rfl
theorem wd_726 : Cond.fieldLink RX10 52 RX10 "beginsBy" "[J" ∈ eb_ts := eb_mem 726 (by decide +kernel) rfl
theorem wd_792 : Cond.arrayClass .boolean ∈ eb_ts := eb_mem 792 (by decide +kernel) rfl
theorem wd_727 : Cond.fieldLink RX10 56 RX10 "isBy" "[Z" ∈ eb_ts := eb_mem 727 (by decide +kernel) rfl
theorem wd_910 : Cond.methodLink RX10 166 yX10_ownerBy ∈ eb_ts := eb_mem 910 (by decide +kernel) rfl
theorem wd_912 : Cond.instanceMethod yX10_ownerBy ∈ eb_ts := eb_mem 912 (by decide +kernel) rfl
theorem wd_37 : Cond.selects RX10 yX10_ownerBy yX10_ownerBy ∈ eb_ts := eb_mem 37 (by decide +kernel) rfl
theorem wd_871 : Cond.methodLink RX10 127 yX10_costOf ∈ eb_ts := eb_mem 871 (by decide +kernel) rfl
theorem wd_873 : Cond.instanceMethod yX10_costOf ∈ eb_ts := eb_mem 873 (by decide +kernel) rfl
theorem wd_30 : Cond.selects RX10 yX10_costOf yX10_costOf ∈ eb_ts := eb_mem 30 (by decide +kernel) rfl
theorem wd_728 : Cond.fieldLink RX10 216 RX10 "byMany" "I" ∈ eb_ts := eb_mem 728 (by decide +kernel) rfl
theorem wd_729 : Cond.fieldLink RX10 219 RX10 "byLeast" "I" ∈ eb_ts := eb_mem 729 (by decide +kernel) rfl
theorem wd_730 : Cond.fieldLink RX10 222 RX10 "byGreatest" "I" ∈ eb_ts := eb_mem 730 (by decide +kernel) rfl
theorem wd_723 : Cond.fieldLink RX10 225 RX10 "seenMany" "I" ∈ eb_ts := eb_mem 723 (by decide +kernel) rfl
theorem wd_1051 : Cond.methodLink RX10 228 yX10_layMeasures ∈ eb_ts := eb_mem 1051 (by decide +kernel) rfl
theorem wd_1053 : Cond.instanceMethod yX10_layMeasures ∈ eb_ts := eb_mem 1053 (by decide +kernel) rfl
theorem wd_48 : Cond.selects RX10 yX10_layMeasures yX10_layMeasures ∈ eb_ts := eb_mem 48 (by decide +kernel) rfl
theorem wd_939 : Cond.methodLink RX10 181 yX10_moveWord ∈ eb_ts := eb_mem 939 (by decide +kernel) rfl
theorem wd_941 : Cond.instanceMethod yX10_moveWord ∈ eb_ts := eb_mem 941 (by decide +kernel) rfl
theorem wd_40 : Cond.selects RX10 yX10_moveWord yX10_moveWord ∈ eb_ts := eb_mem 40 (by decide +kernel) rfl
theorem wd_807 : Cond.methodLink RX10 95 yX10_readWords ∈ eb_ts := eb_mem 807 (by decide +kernel) rfl
theorem wd_809 : Cond.instanceMethod yX10_readWords ∈ eb_ts := eb_mem 809 (by decide +kernel) rfl
theorem wd_18 : Cond.selects RX10 yX10_readWords yX10_readWords ∈ eb_ts := eb_mem 18 (by decide +kernel) rfl
theorem wd_713 : Cond.fieldLink RX10 81 RX10 "newMany" "I" ∈ eb_ts := eb_mem 713 (by decide +kernel) rfl
theorem wd_811 : Cond.constantLong RX10 84 97 ∈ eb_ts := eb_mem 811 (by decide +kernel) rfl
theorem wd_812 : Cond.constantLong RX10 86 122 ∈ eb_ts := eb_mem 812 (by decide +kernel) rfl
theorem wd_813 : Cond.methodLink RX10 88 yX10_wrongs ∈ eb_ts := eb_mem 813 (by decide +kernel) rfl
theorem wd_815 : Cond.instanceMethod yX10_wrongs ∈ eb_ts := eb_mem 815 (by decide +kernel) rfl
theorem wd_19 : Cond.selects RX10 yX10_wrongs yX10_wrongs ∈ eb_ts := eb_mem 19 (by decide +kernel) rfl
theorem wd_825 : Cond.methodLink RX10 106 yX10_clearWord ∈ eb_ts := eb_mem 825 (by decide +kernel) rfl
theorem wd_827 : Cond.instanceMethod yX10_clearWord ∈ eb_ts := eb_mem 827 (by decide +kernel) rfl
theorem wd_22 : Cond.selects RX10 yX10_clearWord yX10_clearWord ∈ eb_ts := eb_mem 22 (by decide +kernel) rfl
theorem wd_725 : Cond.fieldLink RX10 233 RX10 "bookMany" "I" ∈ eb_ts := eb_mem 725 (by decide +kernel) rfl
theorem wd_1039 : Cond.methodLink RX10 236 yX10_toldLines ∈ eb_ts := eb_mem 1039 (by decide +kernel) rfl
theorem wd_1041 : Cond.instanceMethod yX10_toldLines ∈ eb_ts := eb_mem 1041 (by decide +kernel) rfl
theorem wd_45 : Cond.selects RX10 yX10_toldLines yX10_toldLines ∈ eb_ts := eb_mem 45 (by decide +kernel) rfl
theorem wd_1043 : Cond.methodLink RX10 239 yX10_rivers ∈ eb_ts := eb_mem 1043 (by decide +kernel) rfl
theorem wd_1045 : Cond.instanceMethod yX10_rivers ∈ eb_ts := eb_mem 1045 (by decide +kernel) rfl
theorem wd_46 : Cond.selects RX10 yX10_rivers yX10_rivers ∈ eb_ts := eb_mem 46 (by decide +kernel) rfl
theorem wd_1047 : Cond.methodLink RX10 242 yX10_toldMeasures ∈ eb_ts := eb_mem 1047 (by decide +kernel) rfl
theorem wd_1049 : Cond.instanceMethod yX10_toldMeasures ∈ eb_ts := eb_mem 1049 (by decide +kernel) rfl
theorem wd_47 : Cond.selects RX10 yX10_toldMeasures yX10_toldMeasures ∈ eb_ts := eb_mem 47 (by decide +kernel) rfl
theorem wd_1055 : Cond.methodLink RX10 245 yX10_lookOf ∈ eb_ts := eb_mem 1055 (by decide +kernel) rfl
theorem wd_1057 : Cond.instanceMethod yX10_lookOf ∈ eb_ts := eb_mem 1057 (by decide +kernel) rfl
theorem wd_49 : Cond.selects RX10 yX10_lookOf yX10_lookOf ∈ eb_ts := eb_mem 49 (by decide +kernel) rfl
theorem wd_1059 : Cond.methodLink RX10 248 yX10_wrongEntry ∈ eb_ts := eb_mem 1059 (by decide +kernel) rfl
theorem wd_1061 : Cond.instanceMethod yX10_wrongEntry ∈ eb_ts := eb_mem 1061 (by decide +kernel) rfl
theorem wd_50 : Cond.selects RX10 yX10_wrongEntry yX10_wrongEntry ∈ eb_ts := eb_mem 50 (by decide +kernel) rfl
theorem wd_1004 : Cond.constantLong RX10 212 40 ∈ eb_ts := eb_mem 1004 (by decide +kernel) rfl
theorem wd_842 : Cond.constantLong RX10 158 15 ∈ eb_ts := eb_mem 842 (by decide +kernel) rfl
theorem wd_850 : Cond.methodLink RX10 160 yX10_lineOf ∈ eb_ts := eb_mem 850 (by decide +kernel) rfl
theorem wd_852 : Cond.instanceMethod yX10_lineOf ∈ eb_ts := eb_mem 852 (by decide +kernel) rfl
theorem wd_25 : Cond.selects RX10 yX10_lineOf yX10_lineOf ∈ eb_ts := eb_mem 25 (by decide +kernel) rfl
theorem wd_889 : Cond.methodLink RX10 163 yX10_growsOf ∈ eb_ts := eb_mem 889 (by decide +kernel) rfl
theorem wd_891 : Cond.instanceMethod yX10_growsOf ∈ eb_ts := eb_mem 891 (by decide +kernel) rfl
theorem wd_33 : Cond.selects RX10 yX10_growsOf yX10_growsOf ∈ eb_ts := eb_mem 33 (by decide +kernel) rfl
theorem wd_847 : Cond.methodLink RX10 110 yX10_widthOf ∈ eb_ts := eb_mem 847 (by decide +kernel) rfl
theorem wd_848 : Cond.static yX10_widthOf ∈ eb_ts := eb_mem 848 (by decide +kernel) rfl
theorem wd_1018 : Cond.constantLong RX10 231 39 ∈ eb_ts := eb_mem 1018 (by decide +kernel) rfl
theorem wd_164 : Cond.fieldLink RX1 9 RX1 "state" "I" ∈ eb_ts := eb_mem 164 (by decide +kernel) rfl
theorem wd_611 : Cond.constantLong RX1 15 1103515245 ∈ eb_ts := eb_mem 611 (by decide +kernel) rfl
theorem wd_612 : Cond.constantLong RX1 17 12345 ∈ eb_ts := eb_mem 612 (by decide +kernel) rfl
theorem wd_613 : Cond.constantLong RX1 19 2147483648 ∈ eb_ts := eb_mem 613 (by decide +kernel) rfl
theorem wd_614 : Cond.constant RX1 21 65536 ∈ eb_ts := eb_mem 614 (by decide +kernel) rfl
theorem wd_607 : Cond.methodLink RX1 22 yX1_draw ∈ eb_ts := eb_mem 607 (by decide +kernel) rfl
theorem wd_608 : Cond.instanceMethod yX1_draw ∈ eb_ts := eb_mem 608 (by decide +kernel) rfl
theorem wd_609 : Cond.selects RX1 yX1_draw yX1_draw ∈ eb_ts := eb_mem 609 (by decide +kernel) rfl
theorem wd_615 : Cond.methodLink RX1 26 yX5_withLetter ∈ eb_ts := eb_mem 615 (by decide +kernel) rfl
theorem wd_399 : Cond.static yX5_withLetter ∈ eb_ts := eb_mem 399 (by decide +kernel) rfl
theorem wd_163 : Cond.methodLink RX1 3 objectInit ∈ eb_ts := eb_mem 163 (by decide +kernel) rfl
theorem wd_275 : Cond.methodLink RX2 1 objectInit ∈ eb_ts := eb_mem 275 (by decide +kernel) rfl
theorem wd_276 : Cond.classLink RX2 7 RX7 ∈ eb_ts := eb_mem 276 (by decide +kernel) rfl
theorem wd_74 : Cond.instantiable RX7 6 ∈ eb_ts := eb_mem 74 (by decide +kernel) rfl
theorem wd_76 : Cond.instanceMethod yX7_init ∈ eb_ts := eb_mem 76 (by decide +kernel) rfl
theorem wd_278 : Cond.fieldLink RX2 10 RX2 "text" "LEvenBreaks$Text;" ∈ eb_ts := eb_mem 278 (by decide +kernel) rfl
theorem wd_280 : Cond.fieldLink RX2 16 RX2 "state" "I" ∈ eb_ts := eb_mem 280 (by decide +kernel) rfl
theorem wd_282 : Cond.fieldLink RX2 20 RX2 "kept" "Z" ∈ eb_ts := eb_mem 282 (by decide +kernel) rfl
theorem wd_211 : Cond.fieldLink RX3 44 RX3 "lines" "I" ∈ eb_ts := eb_mem 211 (by decide +kernel) rfl
theorem wd_203 : Cond.fieldLink RX3 21 RX3 "lineBegin" "[I" ∈ eb_ts := eb_mem 203 (by decide +kernel) rfl
theorem wd_205 : Cond.fieldLink RX3 27 RX3 "last" "I" ∈ eb_ts := eb_mem 205 (by decide +kernel) rfl
theorem wd_436 : Cond.methodLink RX3 124 yX3_firstFall ∈ eb_ts := eb_mem 436 (by decide +kernel) rfl
theorem wd_438 : Cond.instanceMethod yX3_firstFall ∈ eb_ts := eb_mem 438 (by decide +kernel) rfl
theorem wd_9 : Cond.selects RX3 yX3_firstFall yX3_firstFall ∈ eb_ts := eb_mem 9 (by decide +kernel) rfl
theorem wd_204 : Cond.fieldLink RX3 24 RX3 "row" "[I" ∈ eb_ts := eb_mem 204 (by decide +kernel) rfl
theorem wd_440 : Cond.methodLink RX3 100 yX3_price ∈ eb_ts := eb_mem 440 (by decide +kernel) rfl
theorem wd_441 : Cond.instanceMethod yX3_price ∈ eb_ts := eb_mem 441 (by decide +kernel) rfl
theorem wd_442 : Cond.selects RX3 yX3_price yX3_price ∈ eb_ts := eb_mem 442 (by decide +kernel) rfl
theorem wd_448 : Cond.methodLink RX3 114 yX3_beginOf ∈ eb_ts := eb_mem 448 (by decide +kernel) rfl
theorem wd_452 : Cond.methodLink RX3 117 yX3_endOf ∈ eb_ts := eb_mem 452 (by decide +kernel) rfl
theorem wd_453 : Cond.instanceMethod yX3_endOf ∈ eb_ts := eb_mem 453 (by decide +kernel) rfl
theorem wd_454 : Cond.selects RX3 yX3_endOf yX3_endOf ∈ eb_ts := eb_mem 454 (by decide +kernel) rfl
theorem wd_320 : Cond.methodLink RX3 73 yX3_widthOf ∈ eb_ts := eb_mem 320 (by decide +kernel) rfl
theorem wd_321 : Cond.instanceMethod yX3_widthOf ∈ eb_ts := eb_mem 321 (by decide +kernel) rfl
theorem wd_322 : Cond.selects RX3 yX3_widthOf yX3_widthOf ∈ eb_ts := eb_mem 322 (by decide +kernel) rfl
theorem wd_196 : Cond.methodLink RX3 3 objectInit ∈ eb_ts := eb_mem 196 (by decide +kernel) rfl
theorem wd_198 : Cond.fieldLink RX3 9 RX3 "place" "[I" ∈ eb_ts := eb_mem 198 (by decide +kernel) rfl
theorem wd_199 : Cond.fieldLink RX3 15 RX3 "total" "[I" ∈ eb_ts := eb_mem 199 (by decide +kernel) rfl
theorem wd_201 : Cond.fieldLink RX3 18 RX3 "owner" "[I" ∈ eb_ts := eb_mem 201 (by decide +kernel) rfl
theorem wd_206 : Cond.fieldLink RX3 31 RX3 "measure" "I" ∈ eb_ts := eb_mem 206 (by decide +kernel) rfl
theorem wd_208 : Cond.fieldLink RX3 34 RX3 "law" "I" ∈ eb_ts := eb_mem 208 (by decide +kernel) rfl
theorem wd_209 : Cond.fieldLink RX3 37 RX3 "fee" "I" ∈ eb_ts := eb_mem 209 (by decide +kernel) rfl
theorem wd_210 : Cond.fieldLink RX3 40 RX3 "free" "Z" ∈ eb_ts := eb_mem 210 (by decide +kernel) rfl
theorem wd_213 : Cond.fieldLink RX3 47 RX3 "begins" "J" ∈ eb_ts := eb_mem 213 (by decide +kernel) rfl
theorem wd_197 : Cond.fieldLink RX3 51 RX3 "roots" "[I" ∈ eb_ts := eb_mem 197 (by decide +kernel) rfl
theorem wd_340 : Cond.methodLink RX3 96 yX3_isBegin ∈ eb_ts := eb_mem 340 (by decide +kernel) rfl
theorem wd_342 : Cond.instanceMethod yX3_isBegin ∈ eb_ts := eb_mem 342 (by decide +kernel) rfl
theorem wd_6 : Cond.selects RX3 yX3_isBegin yX3_isBegin ∈ eb_ts := eb_mem 6 (by decide +kernel) rfl
theorem wd_646 : Cond.methodLink RX3 106 yX3_leastWithOneMore ∈ eb_ts := eb_mem 646 (by decide +kernel) rfl
theorem wd_648 : Cond.instanceMethod yX3_leastWithOneMore ∈ eb_ts := eb_mem 648 (by decide +kernel) rfl
theorem wd_17 : Cond.selects RX3 yX3_leastWithOneMore yX3_leastWithOneMore ∈ eb_ts := eb_mem 17 (by decide +kernel) rfl
theorem wd_319 : Cond.constant RX3 95 2147483647 ∈ eb_ts := eb_mem 319 (by decide +kernel) rfl
theorem wd_650 : Cond.methodLink RX3 109 yJ_min ∈ eb_ts := eb_mem 650 (by decide +kernel) rfl
theorem wd_417 : Cond.static yJ_min ∈ eb_ts := eb_mem 417 (by decide +kernel) rfl
theorem wd_83 : Cond.fieldLink RX3 54 RX7 "count" "I" ∈ eb_ts := eb_mem 83 (by decide +kernel) rfl
theorem wd_86 : Cond.fieldLink RX3 59 RX7 "measure" "I" ∈ eb_ts := eb_mem 86 (by decide +kernel) rfl
theorem wd_89 : Cond.fieldLink RX3 60 RX7 "law" "I" ∈ eb_ts := eb_mem 89 (by decide +kernel) rfl
theorem wd_92 : Cond.fieldLink RX3 61 RX7 "fee" "I" ∈ eb_ts := eb_mem 92 (by decide +kernel) rfl
theorem wd_95 : Cond.fieldLink RX3 62 RX7 "free" "Z" ∈ eb_ts := eb_mem 95 (by decide +kernel) rfl
theorem wd_80 : Cond.fieldLink RX3 63 RX7 "words" "[J" ∈ eb_ts := eb_mem 80 (by decide +kernel) rfl
theorem wd_299 : Cond.methodLink RX3 67 yX5_widthOf ∈ eb_ts := eb_mem 299 (by decide +kernel) rfl
theorem wd_300 : Cond.static yX5_widthOf ∈ eb_ts := eb_mem 300 (by decide +kernel) rfl
theorem wd_324 : Cond.methodLink RX3 76 yX3_priceOf ∈ eb_ts := eb_mem 324 (by decide +kernel) rfl
theorem wd_326 : Cond.instanceMethod yX3_priceOf ∈ eb_ts := eb_mem 326 (by decide +kernel) rfl
theorem wd_2 : Cond.selects RX3 yX3_priceOf yX3_priceOf ∈ eb_ts := eb_mem 2 (by decide +kernel) rfl
theorem wd_328 : Cond.methodLink RX3 79 yX3_tightPrice ∈ eb_ts := eb_mem 328 (by decide +kernel) rfl
theorem wd_330 : Cond.instanceMethod yX3_tightPrice ∈ eb_ts := eb_mem 330 (by decide +kernel) rfl
theorem wd_3 : Cond.selects RX3 yX3_tightPrice yX3_tightPrice ∈ eb_ts := eb_mem 3 (by decide +kernel) rfl
theorem wd_332 : Cond.methodLink RX3 83 yX3_loosePrice ∈ eb_ts := eb_mem 332 (by decide +kernel) rfl
theorem wd_334 : Cond.instanceMethod yX3_loosePrice ∈ eb_ts := eb_mem 334 (by decide +kernel) rfl
theorem wd_4 : Cond.selects RX3 yX3_loosePrice yX3_loosePrice ∈ eb_ts := eb_mem 4 (by decide +kernel) rfl
theorem wd_456 : Cond.methodLink RX3 120 yX3_hasGapAt ∈ eb_ts := eb_mem 456 (by decide +kernel) rfl
theorem wd_458 : Cond.instanceMethod yX3_hasGapAt ∈ eb_ts := eb_mem 458 (by decide +kernel) rfl
theorem wd_10 : Cond.selects RX3 yX3_hasGapAt yX3_hasGapAt ∈ eb_ts := eb_mem 10 (by decide +kernel) rfl
theorem wd_539 : Cond.methodLink RX3 103 yX3_ownerKnownTo ∈ eb_ts := eb_mem 539 (by decide +kernel) rfl
theorem wd_540 : Cond.instanceMethod yX3_ownerKnownTo ∈ eb_ts := eb_mem 540 (by decide +kernel) rfl
theorem wd_541 : Cond.selects RX3 yX3_ownerKnownTo yX3_ownerKnownTo ∈ eb_ts := eb_mem 541 (by decide +kernel) rfl
theorem wd_315 : Cond.methodLink RX3 86 yX3_settle ∈ eb_ts := eb_mem 315 (by decide +kernel) rfl
theorem wd_317 : Cond.instanceMethod yX3_settle ∈ eb_ts := eb_mem 317 (by decide +kernel) rfl
theorem wd_1 : Cond.selects RX3 yX3_settle yX3_settle ∈ eb_ts := eb_mem 1 (by decide +kernel) rfl
theorem wd_336 : Cond.methodLink RX3 90 yX3_layLines ∈ eb_ts := eb_mem 336 (by decide +kernel) rfl
theorem wd_338 : Cond.instanceMethod yX3_layLines ∈ eb_ts := eb_mem 338 (by decide +kernel) rfl
theorem wd_5 : Cond.selects RX3 yX3_layLines yX3_layLines ∈ eb_ts := eb_mem 5 (by decide +kernel) rfl
theorem wd_148 : Cond.fieldLink RX4 17 RX4 "next" "I" ∈ eb_ts := eb_mem 148 (by decide +kernel) rfl
theorem wd_149 : Cond.fieldLink RX4 21 RX4 "count" "I" ∈ eb_ts := eb_mem 149 (by decide +kernel) rfl
theorem wd_147 : Cond.fieldLink RX4 11 RX4 "texts" "[LEvenBreaks$Text;" ∈ eb_ts := eb_mem 147 (by decide +kernel) rfl
theorem wd_405 : Cond.methodLink RX4 25 yX7_become ∈ eb_ts := eb_mem 405 (by decide +kernel) rfl
theorem wd_406 : Cond.instanceMethod yX7_become ∈ eb_ts := eb_mem 406 (by decide +kernel) rfl
theorem wd_407 : Cond.selects RX7 yX7_become yX7_become ∈ eb_ts := eb_mem 407 (by decide +kernel) rfl
theorem wd_143 : Cond.methodLink RX4 3 objectInit ∈ eb_ts := eb_mem 143 (by decide +kernel) rfl
theorem wd_144 : Cond.classLink RX4 9 RX7 ∈ eb_ts := eb_mem 144 (by decide +kernel) rfl
theorem wd_416 : Cond.methodLink RX4 29 yJ_min ∈ eb_ts := eb_mem 416 (by decide +kernel) rfl
theorem wd_305 : Cond.methodLink RX5 11 yX5_letterAt ∈ eb_ts := eb_mem 305 (by decide +kernel) rfl
theorem wd_306 : Cond.static yX5_letterAt ∈ eb_ts := eb_mem 306 (by decide +kernel) rfl
theorem wd_302 : Cond.methodLink RX5 15 yX5_lengthOf ∈ eb_ts := eb_mem 302 (by decide +kernel) rfl
theorem wd_303 : Cond.static yX5_lengthOf ∈ eb_ts := eb_mem 303 (by decide +kernel) rfl
theorem wd_308 : Cond.methodLink RX5 19 yX5_letterWidth ∈ eb_ts := eb_mem 308 (by decide +kernel) rfl
theorem wd_309 : Cond.static yX5_letterWidth ∈ eb_ts := eb_mem 309 (by decide +kernel) rfl
theorem wd_249 : Cond.fieldLink RX6 9 RX6 "totalBy" "[I" ∈ eb_ts := eb_mem 249 (by decide +kernel) rfl
theorem wd_207 : Cond.fieldLink RX6 34 RX3 "measure" "I" ∈ eb_ts := eb_mem 207 (by decide +kernel) rfl
theorem wd_468 : Cond.methodLink RX6 39 yX3_solve ∈ eb_ts := eb_mem 468 (by decide +kernel) rfl
theorem wd_312 : Cond.instanceMethod yX3_solve ∈ eb_ts := eb_mem 312 (by decide +kernel) rfl
theorem wd_313 : Cond.selects RX3 yX3_solve yX3_solve ∈ eb_ts := eb_mem 313 (by decide +kernel) rfl
theorem wd_469 : Cond.methodLink RX6 42 yX3_lastTotal ∈ eb_ts := eb_mem 469 (by decide +kernel) rfl
theorem wd_429 : Cond.instanceMethod yX3_lastTotal ∈ eb_ts := eb_mem 429 (by decide +kernel) rfl
theorem wd_430 : Cond.selects RX3 yX3_lastTotal yX3_lastTotal ∈ eb_ts := eb_mem 430 (by decide +kernel) rfl
theorem wd_251 : Cond.fieldLink RX6 15 RX6 "beginsBy" "[J" ∈ eb_ts := eb_mem 251 (by decide +kernel) rfl
theorem wd_214 : Cond.fieldLink RX6 46 RX3 "begins" "J" ∈ eb_ts := eb_mem 214 (by decide +kernel) rfl
theorem wd_252 : Cond.fieldLink RX6 19 RX6 "isFresh" "Z" ∈ eb_ts := eb_mem 252 (by decide +kernel) rfl
theorem wd_256 : Cond.fieldLink RX6 27 RX6 "seenBegin" "J" ∈ eb_ts := eb_mem 256 (by decide +kernel) rfl
theorem wd_257 : Cond.fieldLink RX6 31 RX6 "seenNone" "J" ∈ eb_ts := eb_mem 257 (by decide +kernel) rfl
theorem wd_474 : Cond.methodLink RX6 50 yX6_fits ∈ eb_ts := eb_mem 474 (by decide +kernel) rfl
theorem wd_476 : Cond.instanceMethod yX6_fits ∈ eb_ts := eb_mem 476 (by decide +kernel) rfl
theorem wd_12 : Cond.selects RX6 yX6_fits yX6_fits ∈ eb_ts := eb_mem 12 (by decide +kernel) rfl
theorem wd_254 : Cond.fieldLink RX6 23 RX6 "seen" "I" ∈ eb_ts := eb_mem 254 (by decide +kernel) rfl
theorem wd_248 : Cond.methodLink RX6 3 objectInit ∈ eb_ts := eb_mem 248 (by decide +kernel) rfl
theorem wd_490 : Cond.methodLink RX6 54 yX6_fitting ∈ eb_ts := eb_mem 490 (by decide +kernel) rfl
theorem wd_471 : Cond.instanceMethod yX6_fitting ∈ eb_ts := eb_mem 471 (by decide +kernel) rfl
theorem wd_472 : Cond.selects RX6 yX6_fitting yX6_fitting ∈ eb_ts := eb_mem 472 (by decide +kernel) rfl
theorem wd_491 : Cond.methodLink RX6 57 yX6_fittingThatBegin ∈ eb_ts := eb_mem 491 (by decide +kernel) rfl
theorem wd_493 : Cond.instanceMethod yX6_fittingThatBegin ∈ eb_ts := eb_mem 493 (by decide +kernel) rfl
theorem wd_13 : Cond.selects RX6 yX6_fittingThatBegin yX6_fittingThatBegin ∈ eb_ts := eb_mem 13 (by decide +kernel) rfl
theorem wd_495 : Cond.methodLink RX6 61 yJ_max ∈ eb_ts := eb_mem 495 (by decide +kernel) rfl
theorem wd_496 : Cond.static yJ_max ∈ eb_ts := eb_mem 496 (by decide +kernel) rfl
theorem wd_667 : Cond.constant RX6 49 (-1000000004) ∈ eb_ts := eb_mem 667 (by decide +kernel) rfl
theorem wd_79 : Cond.fieldLink RX7 9 RX7 "words" "[J" ∈ eb_ts := eb_mem 79 (by decide +kernel) rfl
theorem wd_82 : Cond.fieldLink RX7 15 RX7 "count" "I" ∈ eb_ts := eb_mem 82 (by decide +kernel) rfl
theorem wd_409 : Cond.methodLink RX7 32 yX7_setWords ∈ eb_ts := eb_mem 409 (by decide +kernel) rfl
theorem wd_410 : Cond.instanceMethod yX7_setWords ∈ eb_ts := eb_mem 410 (by decide +kernel) rfl
theorem wd_411 : Cond.selects RX7 yX7_setWords yX7_setWords ∈ eb_ts := eb_mem 411 (by decide +kernel) rfl
theorem wd_85 : Cond.fieldLink RX7 19 RX7 "measure" "I" ∈ eb_ts := eb_mem 85 (by decide +kernel) rfl
theorem wd_88 : Cond.fieldLink RX7 22 RX7 "law" "I" ∈ eb_ts := eb_mem 88 (by decide +kernel) rfl
theorem wd_91 : Cond.fieldLink RX7 25 RX7 "fee" "I" ∈ eb_ts := eb_mem 91 (by decide +kernel) rfl
theorem wd_94 : Cond.fieldLink RX7 28 RX7 "free" "Z" ∈ eb_ts := eb_mem 94 (by decide +kernel) rfl
theorem wd_78 : Cond.methodLink RX7 3 objectInit ∈ eb_ts := eb_mem 78 (by decide +kernel) rfl
theorem wd_569 : Cond.methodLink RX7 42 yX7_hasEnd ∈ eb_ts := eb_mem 569 (by decide +kernel) rfl
theorem wd_532 : Cond.instanceMethod yX7_hasEnd ∈ eb_ts := eb_mem 532 (by decide +kernel) rfl
theorem wd_533 : Cond.selects RX7 yX7_hasEnd yX7_hasEnd ∈ eb_ts := eb_mem 533 (by decide +kernel) rfl
theorem wd_413 : Cond.methodLink RX7 36 arraycopyName ∈ eb_ts := eb_mem 413 (by decide +kernel) rfl
theorem wd_578 : Cond.methodLink RX7 46 yX7_hasWord ∈ eb_ts := eb_mem 578 (by decide +kernel) rfl
theorem wd_508 : Cond.instanceMethod yX7_hasWord ∈ eb_ts := eb_mem 508 (by decide +kernel) rfl
theorem wd_509 : Cond.selects RX7 yX7_hasWord yX7_hasWord ∈ eb_ts := eb_mem 509 (by decide +kernel) rfl
theorem wd_120 : Cond.fieldLink RX8 19 RX8 "count" "I" ∈ eb_ts := eb_mem 120 (by decide +kernel) rfl
theorem wd_381 : Cond.constant RX8 29 (-1000000004) ∈ eb_ts := eb_mem 381 (by decide +kernel) rfl
theorem wd_117 : Cond.fieldLink RX8 9 RX8 "letters" "[I" ∈ eb_ts := eb_mem 117 (by decide +kernel) rfl
theorem wd_118 : Cond.fieldLink RX8 15 RX8 "words" "[J" ∈ eb_ts := eb_mem 118 (by decide +kernel) rfl
theorem wd_122 : Cond.fieldLink RX8 23 RX8 "wordCount" "I" ∈ eb_ts := eb_mem 122 (by decide +kernel) rfl
theorem wd_398 : Cond.methodLink RX8 38 yX5_withLetter ∈ eb_ts := eb_mem 398 (by decide +kernel) rfl
theorem wd_116 : Cond.methodLink RX8 3 objectInit ∈ eb_ts := eb_mem 116 (by decide +kernel) rfl
theorem wd_124 : Cond.fieldLink RX8 26 RX8 "faultAt" "I" ∈ eb_ts := eb_mem 124 (by decide +kernel) rfl
theorem wd_390 : Cond.methodLink RX8 30 yX8_faultOf ∈ eb_ts := eb_mem 390 (by decide +kernel) rfl
theorem wd_392 : Cond.instanceMethod yX8_faultOf ∈ eb_ts := eb_mem 392 (by decide +kernel) rfl
theorem wd_7 : Cond.selects RX8 yX8_faultOf yX8_faultOf ∈ eb_ts := eb_mem 7 (by decide +kernel) rfl
theorem wd_394 : Cond.methodLink RX8 34 yX8_addToWord ∈ eb_ts := eb_mem 394 (by decide +kernel) rfl
theorem wd_396 : Cond.instanceMethod yX8_addToWord ∈ eb_ts := eb_mem 396 (by decide +kernel) rfl
theorem wd_8 : Cond.selects RX8 yX8_addToWord yX8_addToWord ∈ eb_ts := eb_mem 8 (by decide +kernel) rfl
theorem wd_376 : Cond.constant RX9 77 (-1000000002) ∈ eb_ts := eb_mem 376 (by decide +kernel) rfl
theorem wd_460 : Cond.methodLink RX9 137 yX9_surveyed ∈ eb_ts := eb_mem 460 (by decide +kernel) rfl
theorem wd_462 : Cond.instanceMethod yX9_surveyed ∈ eb_ts := eb_mem 462 (by decide +kernel) rfl
theorem wd_11 : Cond.selects RX9 yX9_surveyed yX9_surveyed ∈ eb_ts := eb_mem 11 (by decide +kernel) rfl
theorem wd_655 : Cond.methodLink RX9 235 yX6_bestMeasure ∈ eb_ts := eb_mem 655 (by decide +kernel) rfl
theorem wd_656 : Cond.instanceMethod yX6_bestMeasure ∈ eb_ts := eb_mem 656 (by decide +kernel) rfl
theorem wd_657 : Cond.selects RX6 yX6_bestMeasure yX6_bestMeasure ∈ eb_ts := eb_mem 657 (by decide +kernel) rfl
theorem wd_250 : Cond.fieldLink RX9 238 RX6 "totalBy" "[I" ∈ eb_ts := eb_mem 250 (by decide +kernel) rfl
theorem wd_344 : Cond.fieldLink RX9 12 RX9 "text" "LEvenBreaks$Text;" ∈ eb_ts := eb_mem 344 (by decide +kernel) rfl
theorem wd_507 : Cond.methodLink RX9 159 yX7_hasWord ∈ eb_ts := eb_mem 507 (by decide +kernel) rfl
theorem wd_511 : Cond.constant RX9 163 (-1000000001) ∈ eb_ts := eb_mem 511 (by decide +kernel) rfl
theorem wd_555 : Cond.methodLink RX9 209 yX9_readOneWord ∈ eb_ts := eb_mem 555 (by decide +kernel) rfl
theorem wd_557 : Cond.instanceMethod yX9_readOneWord ∈ eb_ts := eb_mem 557 (by decide +kernel) rfl
theorem wd_15 : Cond.selects RX9 yX9_readOneWord yX9_readOneWord ∈ eb_ts := eb_mem 15 (by decide +kernel) rfl
theorem wd_346 : Cond.fieldLink RX9 26 RX9 "past" "LEvenBreaks$Past;" ∈ eb_ts := eb_mem 346 (by decide +kernel) rfl
theorem wd_401 : Cond.methodLink RX9 86 yX4_remember ∈ eb_ts := eb_mem 401 (by decide +kernel) rfl
theorem wd_402 : Cond.instanceMethod yX4_remember ∈ eb_ts := eb_mem 402 (by decide +kernel) rfl
theorem wd_403 : Cond.selects RX4 yX4_remember yX4_remember ∈ eb_ts := eb_mem 403 (by decide +kernel) rfl
theorem wd_81 : Cond.fieldLink RX9 164 RX7 "words" "[J" ∈ eb_ts := eb_mem 81 (by decide +kernel) rfl
theorem wd_345 : Cond.fieldLink RX9 19 RX9 "typed" "LEvenBreaks$Typed;" ∈ eb_ts := eb_mem 345 (by decide +kernel) rfl
theorem wd_119 : Cond.fieldLink RX9 90 RX8 "words" "[J" ∈ eb_ts := eb_mem 119 (by decide +kernel) rfl
theorem wd_291 : Cond.methodLink RX9 74 yX9_layAnew ∈ eb_ts := eb_mem 291 (by decide +kernel) rfl
theorem wd_293 : Cond.instanceMethod yX9_layAnew ∈ eb_ts := eb_mem 293 (by decide +kernel) rfl
theorem wd_0 : Cond.selects RX9 yX9_layAnew yX9_layAnew ∈ eb_ts := eb_mem 0 (by decide +kernel) rfl
theorem wd_512 : Cond.methodLink RX9 165 yX5_widthOf ∈ eb_ts := eb_mem 512 (by decide +kernel) rfl
theorem wd_531 : Cond.methodLink RX9 184 yX7_hasEnd ∈ eb_ts := eb_mem 531 (by decide +kernel) rfl
theorem wd_349 : Cond.fieldLink RX9 59 RX9 "now" "LEvenBreaks$Layout;" ∈ eb_ts := eb_mem 349 (by decide +kernel) rfl
theorem wd_550 : Cond.methodLink RX9 206 yX3_price ∈ eb_ts := eb_mem 550 (by decide +kernel) rfl
theorem wd_599 : Cond.methodLink RX9 221 yX9_driftOnce ∈ eb_ts := eb_mem 599 (by decide +kernel) rfl
theorem wd_601 : Cond.instanceMethod yX9_driftOnce ∈ eb_ts := eb_mem 601 (by decide +kernel) rfl
theorem wd_16 : Cond.selects RX9 yX9_driftOnce yX9_driftOnce ∈ eb_ts := eb_mem 16 (by decide +kernel) rfl
theorem wd_84 : Cond.fieldLink RX9 102 RX7 "count" "I" ∈ eb_ts := eb_mem 84 (by decide +kernel) rfl
theorem wd_347 : Cond.fieldLink RX9 33 RX9 "draws" "LEvenBreaks$Draws;" ∈ eb_ts := eb_mem 347 (by decide +kernel) rfl
theorem wd_603 : Cond.methodLink RX9 274 yX1_drawWord ∈ eb_ts := eb_mem 603 (by decide +kernel) rfl
theorem wd_604 : Cond.instanceMethod yX1_drawWord ∈ eb_ts := eb_mem 604 (by decide +kernel) rfl
theorem wd_605 : Cond.selects RX1 yX1_drawWord yX1_drawWord ∈ eb_ts := eb_mem 605 (by decide +kernel) rfl
theorem wd_565 : Cond.methodLink RX9 213 yX7_putIn ∈ eb_ts := eb_mem 565 (by decide +kernel) rfl
theorem wd_566 : Cond.instanceMethod yX7_putIn ∈ eb_ts := eb_mem 566 (by decide +kernel) rfl
theorem wd_567 : Cond.selects RX7 yX7_putIn yX7_putIn ∈ eb_ts := eb_mem 567 (by decide +kernel) rfl
theorem wd_616 : Cond.methodLink RX9 278 yX1_draw ∈ eb_ts := eb_mem 616 (by decide +kernel) rfl
theorem wd_200 : Cond.fieldLink RX9 187 RX3 "total" "[I" ∈ eb_ts := eb_mem 200 (by decide +kernel) rfl
theorem wd_202 : Cond.fieldLink RX9 191 RX3 "owner" "[I" ∈ eb_ts := eb_mem 202 (by decide +kernel) rfl
theorem wd_535 : Cond.methodLink RX9 194 yX3_runsAt ∈ eb_ts := eb_mem 535 (by decide +kernel) rfl
theorem wd_536 : Cond.instanceMethod yX3_runsAt ∈ eb_ts := eb_mem 536 (by decide +kernel) rfl
theorem wd_537 : Cond.selects RX3 yX3_runsAt yX3_runsAt ∈ eb_ts := eb_mem 537 (by decide +kernel) rfl
theorem wd_125 : Cond.fieldLink RX9 105 RX8 "faultAt" "I" ∈ eb_ts := eb_mem 125 (by decide +kernel) rfl
theorem wd_93 : Cond.fieldLink RX9 114 RX7 "fee" "I" ∈ eb_ts := eb_mem 93 (by decide +kernel) rfl
theorem wd_428 : Cond.methodLink RX9 122 yX3_lastTotal ∈ eb_ts := eb_mem 428 (by decide +kernel) rfl
theorem wd_377 : Cond.methodLink RX9 78 yX8_add ∈ eb_ts := eb_mem 377 (by decide +kernel) rfl
theorem wd_378 : Cond.instanceMethod yX8_add ∈ eb_ts := eb_mem 378 (by decide +kernel) rfl
theorem wd_379 : Cond.selects RX8 yX8_add yX8_add ∈ eb_ts := eb_mem 379 (by decide +kernel) rfl
theorem wd_432 : Cond.methodLink RX9 128 yX3_firstCrossed ∈ eb_ts := eb_mem 432 (by decide +kernel) rfl
theorem wd_433 : Cond.instanceMethod yX3_firstCrossed ∈ eb_ts := eb_mem 433 (by decide +kernel) rfl
theorem wd_434 : Cond.selects RX3 yX3_firstCrossed yX3_firstCrossed ∈ eb_ts := eb_mem 434 (by decide +kernel) rfl
theorem wd_96 : Cond.fieldLink RX9 117 RX7 "free" "Z" ∈ eb_ts := eb_mem 96 (by decide +kernel) rfl
theorem wd_348 : Cond.fieldLink RX9 39 RX9 "images" "[LEvenBreaks$Image;" ∈ eb_ts := eb_mem 348 (by decide +kernel) rfl
theorem wd_283 : Cond.fieldLink RX9 258 RX2 "kept" "Z" ∈ eb_ts := eb_mem 283 (by decide +kernel) rfl
theorem wd_559 : Cond.constant RX9 224 (-1000000003) ∈ eb_ts := eb_mem 559 (by decide +kernel) rfl
theorem wd_279 : Cond.fieldLink RX9 253 RX2 "text" "LEvenBreaks$Text;" ∈ eb_ts := eb_mem 279 (by decide +kernel) rfl
theorem wd_693 : Cond.methodLink RX9 254 yX7_become ∈ eb_ts := eb_mem 693 (by decide +kernel) rfl
theorem wd_281 : Cond.fieldLink RX9 257 RX2 "state" "I" ∈ eb_ts := eb_mem 281 (by decide +kernel) rfl
theorem wd_165 : Cond.fieldLink RX9 250 RX1 "state" "I" ∈ eb_ts := eb_mem 165 (by decide +kernel) rfl
theorem wd_150 : Cond.fieldLink RX9 158 RX4 "count" "I" ∈ eb_ts := eb_mem 150 (by decide +kernel) rfl
theorem wd_350 : Cond.fieldLink RX9 63 RX9 "trial" "LEvenBreaks$Layout;" ∈ eb_ts := eb_mem 350 (by decide +kernel) rfl
theorem wd_295 : Cond.methodLink RX9 261 yX3_load ∈ eb_ts := eb_mem 295 (by decide +kernel) rfl
theorem wd_296 : Cond.instanceMethod yX3_load ∈ eb_ts := eb_mem 296 (by decide +kernel) rfl
theorem wd_297 : Cond.selects RX3 yX3_load yX3_load ∈ eb_ts := eb_mem 297 (by decide +kernel) rfl
theorem wd_522 : Cond.methodLink RX9 281 yX3_widen ∈ eb_ts := eb_mem 522 (by decide +kernel) rfl
theorem wd_523 : Cond.instanceMethod yX3_widen ∈ eb_ts := eb_mem 523 (by decide +kernel) rfl
theorem wd_524 : Cond.selects RX3 yX3_widen yX3_widen ∈ eb_ts := eb_mem 524 (by decide +kernel) rfl
theorem wd_311 : Cond.methodLink RX9 264 yX3_solve ∈ eb_ts := eb_mem 311 (by decide +kernel) rfl
theorem wd_215 : Cond.fieldLink RX9 285 RX3 "begins" "J" ∈ eb_ts := eb_mem 215 (by decide +kernel) rfl
theorem wd_70 : Cond.methodLink RX9 3 objectInit ∈ eb_ts := eb_mem 70 (by decide +kernel) rfl
theorem wd_73 : Cond.classLink RX9 9 RX7 ∈ eb_ts := eb_mem 73 (by decide +kernel) rfl
theorem wd_111 : Cond.classLink RX9 16 RX8 ∈ eb_ts := eb_mem 111 (by decide +kernel) rfl
theorem wd_112 : Cond.instantiable RX8 5 ∈ eb_ts := eb_mem 112 (by decide +kernel) rfl
theorem wd_114 : Cond.instanceMethod yX8_init ∈ eb_ts := eb_mem 114 (by decide +kernel) rfl
theorem wd_138 : Cond.classLink RX9 23 RX4 ∈ eb_ts := eb_mem 138 (by decide +kernel) rfl
theorem wd_139 : Cond.instantiable RX4 3 ∈ eb_ts := eb_mem 139 (by decide +kernel) rfl
theorem wd_141 : Cond.instanceMethod yX4_init ∈ eb_ts := eb_mem 141 (by decide +kernel) rfl
theorem wd_140 : Cond.methodLink RX9 25 yX4_init ∈ eb_ts := eb_mem 140 (by decide +kernel) rfl
theorem wd_158 : Cond.classLink RX9 30 RX1 ∈ eb_ts := eb_mem 158 (by decide +kernel) rfl
theorem wd_159 : Cond.instantiable RX1 1 ∈ eb_ts := eb_mem 159 (by decide +kernel) rfl
theorem wd_161 : Cond.instanceMethod yX1_init ∈ eb_ts := eb_mem 161 (by decide +kernel) rfl
theorem wd_169 : Cond.classLink RX9 37 RX2 ∈ eb_ts := eb_mem 169 (by decide +kernel) rfl
theorem wd_171 : Cond.classLink RX9 43 RX0 ∈ eb_ts := eb_mem 171 (by decide +kernel) rfl
theorem wd_172 : Cond.instantiable RX0 3 ∈ eb_ts := eb_mem 172 (by decide +kernel) rfl
theorem wd_174 : Cond.instanceMethod yX0_init ∈ eb_ts := eb_mem 174 (by decide +kernel) rfl
theorem wd_352 : Cond.fieldLink RX9 46 RX9 "book" "LEvenBreaks$Book;" ∈ eb_ts := eb_mem 352 (by decide +kernel) rfl
theorem wd_188 : Cond.methodLink RX9 50 yX9_tableOfRoots ∈ eb_ts := eb_mem 188 (by decide +kernel) rfl
theorem wd_189 : Cond.static yX9_tableOfRoots ∈ eb_ts := eb_mem 189 (by decide +kernel) rfl
theorem wd_191 : Cond.classLink RX9 54 RX3 ∈ eb_ts := eb_mem 191 (by decide +kernel) rfl
theorem wd_192 : Cond.instantiable RX3 13 ∈ eb_ts := eb_mem 192 (by decide +kernel) rfl
theorem wd_194 : Cond.instanceMethod yX3_init ∈ eb_ts := eb_mem 194 (by decide +kernel) rfl
theorem wd_193 : Cond.methodLink RX9 56 yX3_init ∈ eb_ts := eb_mem 193 (by decide +kernel) rfl
theorem wd_243 : Cond.classLink RX9 66 RX6 ∈ eb_ts := eb_mem 243 (by decide +kernel) rfl
theorem wd_244 : Cond.instantiable RX6 6 ∈ eb_ts := eb_mem 244 (by decide +kernel) rfl
theorem wd_246 : Cond.instanceMethod yX6_init ∈ eb_ts := eb_mem 246 (by decide +kernel) rfl
theorem wd_351 : Cond.fieldLink RX9 69 RX9 "survey" "LEvenBreaks$Survey;" ∈ eb_ts := eb_mem 351 (by decide +kernel) rfl
theorem wd_271 : Cond.instantiable RX2 3 ∈ eb_ts := eb_mem 271 (by decide +kernel) rfl
theorem wd_273 : Cond.instanceMethod yX2_init ∈ eb_ts := eb_mem 273 (by decide +kernel) rfl
theorem wd_564 : Cond.constant RX9 212 (-1000000004) ∈ eb_ts := eb_mem 564 (by decide +kernel) rfl
theorem wd_637 : Cond.methodLink RX9 229 yX3_ownerKnownTo ∈ eb_ts := eb_mem 637 (by decide +kernel) rfl
theorem wd_253 : Cond.fieldLink RX9 267 RX6 "isFresh" "Z" ∈ eb_ts := eb_mem 253 (by decide +kernel) rfl
theorem wd_212 : Cond.fieldLink RX9 125 RX3 "lines" "I" ∈ eb_ts := eb_mem 212 (by decide +kernel) rfl
theorem wd_547 : Cond.methodLink RX9 197 yX3_beginOf ∈ eb_ts := eb_mem 547 (by decide +kernel) rfl
theorem wd_548 : Cond.methodLink RX9 200 yX3_endOf ∈ eb_ts := eb_mem 548 (by decide +kernel) rfl
theorem wd_549 : Cond.methodLink RX9 203 yX3_widthOf ∈ eb_ts := eb_mem 549 (by decide +kernel) rfl
theorem wd_87 : Cond.fieldLink RX9 108 RX7 "measure" "I" ∈ eb_ts := eb_mem 87 (by decide +kernel) rfl
theorem wd_386 : Cond.methodLink RX9 82 yX8_read ∈ eb_ts := eb_mem 386 (by decide +kernel) rfl
theorem wd_387 : Cond.instanceMethod yX8_read ∈ eb_ts := eb_mem 387 (by decide +kernel) rfl
theorem wd_388 : Cond.selects RX8 yX8_read yX8_read ∈ eb_ts := eb_mem 388 (by decide +kernel) rfl
theorem wd_123 : Cond.fieldLink RX9 94 RX8 "wordCount" "I" ∈ eb_ts := eb_mem 123 (by decide +kernel) rfl
theorem wd_90 : Cond.fieldLink RX9 111 RX7 "law" "I" ∈ eb_ts := eb_mem 90 (by decide +kernel) rfl
theorem wd_663 : Cond.methodLink RX9 241 yX6_note ∈ eb_ts := eb_mem 663 (by decide +kernel) rfl
theorem wd_664 : Cond.instanceMethod yX6_note ∈ eb_ts := eb_mem 664 (by decide +kernel) rfl
theorem wd_665 : Cond.selects RX6 yX6_note yX6_note ∈ eb_ts := eb_mem 665 (by decide +kernel) rfl
theorem wd_464 : Cond.methodLink RX9 270 yX6_fill ∈ eb_ts := eb_mem 464 (by decide +kernel) rfl
theorem wd_465 : Cond.instanceMethod yX6_fill ∈ eb_ts := eb_mem 465 (by decide +kernel) rfl
theorem wd_466 : Cond.selects RX6 yX6_fill yX6_fill ∈ eb_ts := eb_mem 466 (by decide +kernel) rfl
theorem wd_574 : Cond.methodLink RX9 217 yX7_takeOut ∈ eb_ts := eb_mem 574 (by decide +kernel) rfl
theorem wd_575 : Cond.instanceMethod yX7_takeOut ∈ eb_ts := eb_mem 575 (by decide +kernel) rfl
theorem wd_576 : Cond.selects RX7 yX7_takeOut yX7_takeOut ∈ eb_ts := eb_mem 576 (by decide +kernel) rfl
theorem wd_255 : Cond.fieldLink RX9 134 RX6 "seen" "I" ∈ eb_ts := eb_mem 255 (by decide +kernel) rfl
theorem wd_180 : Cond.fieldLink RX9 153 RX0 "count" "I" ∈ eb_ts := eb_mem 180 (by decide +kernel) rfl
theorem wd_681 : Cond.methodLink RX9 247 yX6_forget ∈ eb_ts := eb_mem 681 (by decide +kernel) rfl
theorem wd_682 : Cond.instanceMethod yX6_forget ∈ eb_ts := eb_mem 682 (by decide +kernel) rfl
theorem wd_683 : Cond.selects RX6 yX6_forget yX6_forget ∈ eb_ts := eb_mem 683 (by decide +kernel) rfl
theorem wd_121 : Cond.fieldLink RX9 121 RX8 "count" "I" ∈ eb_ts := eb_mem 121 (by decide +kernel) rfl
theorem wd_444 : Cond.methodLink RX9 131 yX3_rivers ∈ eb_ts := eb_mem 444 (by decide +kernel) rfl
theorem wd_445 : Cond.instanceMethod yX3_rivers ∈ eb_ts := eb_mem 445 (by decide +kernel) rfl
theorem wd_446 : Cond.selects RX3 yX3_rivers yX3_rivers ∈ eb_ts := eb_mem 446 (by decide +kernel) rfl
theorem wd_470 : Cond.methodLink RX9 141 yX6_fitting ∈ eb_ts := eb_mem 470 (by decide +kernel) rfl
theorem wd_478 : Cond.methodLink RX9 144 yX6_leastFitting ∈ eb_ts := eb_mem 478 (by decide +kernel) rfl
theorem wd_479 : Cond.instanceMethod yX6_leastFitting ∈ eb_ts := eb_mem 479 (by decide +kernel) rfl
theorem wd_480 : Cond.selects RX6 yX6_leastFitting yX6_leastFitting ∈ eb_ts := eb_mem 480 (by decide +kernel) rfl
theorem wd_482 : Cond.methodLink RX9 147 yX6_greatestFitting ∈ eb_ts := eb_mem 482 (by decide +kernel) rfl
theorem wd_483 : Cond.instanceMethod yX6_greatestFitting ∈ eb_ts := eb_mem 483 (by decide +kernel) rfl
theorem wd_484 : Cond.selects RX6 yX6_greatestFitting yX6_greatestFitting ∈ eb_ts := eb_mem 484 (by decide +kernel) rfl
theorem wd_486 : Cond.methodLink RX9 150 yX6_look ∈ eb_ts := eb_mem 486 (by decide +kernel) rfl
theorem wd_487 : Cond.instanceMethod yX6_look ∈ eb_ts := eb_mem 487 (by decide +kernel) rfl
theorem wd_488 : Cond.selects RX6 yX6_look yX6_look ∈ eb_ts := eb_mem 488 (by decide +kernel) rfl
theorem wd_498 : Cond.methodLink RX9 154 yX0_firstWrong ∈ eb_ts := eb_mem 498 (by decide +kernel) rfl
theorem wd_499 : Cond.instanceMethod yX0_firstWrong ∈ eb_ts := eb_mem 499 (by decide +kernel) rfl
theorem wd_500 : Cond.selects RX0 yX0_firstWrong yX0_firstWrong ∈ eb_ts := eb_mem 500 (by decide +kernel) rfl
theorem wd_419 : Cond.methodLink RX9 98 yX7_setWords ∈ eb_ts := eb_mem 419 (by decide +kernel) rfl
theorem wd_621 : Cond.methodLink RX9 225 yX4_giveBack ∈ eb_ts := eb_mem 621 (by decide +kernel) rfl
theorem wd_622 : Cond.instanceMethod yX4_giveBack ∈ eb_ts := eb_mem 622 (by decide +kernel) rfl
theorem wd_623 : Cond.selects RX4 yX4_giveBack yX4_giveBack ∈ eb_ts := eb_mem 623 (by decide +kernel) rfl
theorem wd_642 : Cond.methodLink RX9 232 yX3_leastWithLines ∈ eb_ts := eb_mem 642 (by decide +kernel) rfl
theorem wd_643 : Cond.instanceMethod yX3_leastWithLines ∈ eb_ts := eb_mem 643 (by decide +kernel) rfl
theorem wd_644 : Cond.selects RX3 yX3_leastWithLines yX3_leastWithLines ∈ eb_ts := eb_mem 644 (by decide +kernel) rfl
theorem wd_513 : Cond.methodLink RX9 171 yX5_lengthOf ∈ eb_ts := eb_mem 513 (by decide +kernel) rfl
theorem wd_514 : Cond.methodLink RX9 174 yX3_lineOf ∈ eb_ts := eb_mem 514 (by decide +kernel) rfl
theorem wd_515 : Cond.instanceMethod yX3_lineOf ∈ eb_ts := eb_mem 515 (by decide +kernel) rfl
theorem wd_516 : Cond.selects RX3 yX3_lineOf yX3_lineOf ∈ eb_ts := eb_mem 516 (by decide +kernel) rfl
theorem wd_518 : Cond.methodLink RX9 177 yX9_grows ∈ eb_ts := eb_mem 518 (by decide +kernel) rfl
theorem wd_520 : Cond.instanceMethod yX9_grows ∈ eb_ts := eb_mem 520 (by decide +kernel) rfl
theorem wd_14 : Cond.selects RX9 yX9_grows yX9_grows ∈ eb_ts := eb_mem 14 (by decide +kernel) rfl
theorem wd_526 : Cond.methodLink RX9 180 yX5_letterAt ∈ eb_ts := eb_mem 526 (by decide +kernel) rfl
theorem wd_672 : Cond.methodLink RX9 245 yX0_add ∈ eb_ts := eb_mem 672 (by decide +kernel) rfl
theorem wd_673 : Cond.instanceMethod yX0_add ∈ eb_ts := eb_mem 673 (by decide +kernel) rfl
theorem wd_674 : Cond.selects RX0 yX0_add yX0_add ∈ eb_ts := eb_mem 674 (by decide +kernel) rfl
theorem wd_71 : Cond.instanceMethod objectInit ∈ eb_ts := eb_mem 71 (by decide +kernel) rfl
theorem wd_72 : Cond.code objectInit ⟨#[0xb1]⟩ 1 none ∈ eb_ts := eb_mem 72 (by decide +kernel) rfl
theorem wd_415 : Cond.native arraycopyName ∈ eb_ts := eb_mem 415 (by decide +kernel) rfl
theorem wd_414 : Cond.static arraycopyName ∈ eb_ts := eb_mem 414 (by decide +kernel) rfl
theorem wd_63 : Cond.initialized "java/lang/System" ∈ eb_ts := eb_mem 63 (by decide +kernel) rfl
theorem okJ_max : eb_okm mJ_max 2 := ⟨wd_497, wd_64, by decide +kernel, by decide⟩
theorem okJ_min : eb_okm mJ_min 2 := ⟨wd_418, wd_64, by decide +kernel, by decide⟩
theorem okX0_add : eb_okm mX0_add 2 := ⟨wd_675, wd_57, by decide +kernel, by decide⟩
theorem okX0_firstWrong : eb_okm mX0_firstWrong 1 := ⟨wd_501, wd_57, by decide +kernel, by decide⟩
theorem okX0_init : eb_okm mX0_init 0 := ⟨wd_175, wd_57, by decide +kernel, by decide⟩
theorem okX10_becomes : eb_okm mX10_becomes 4 := ⟨wd_954, wd_62, by decide +kernel, by decide⟩
theorem okX10_beginSet : eb_okm mX10_beginSet 0 := ⟨wd_896, wd_62, by decide +kernel, by decide⟩
theorem okX10_best : eb_okm mX10_best 3 := ⟨wd_1008, wd_62, by decide +kernel, by decide⟩
theorem okX10_breakLines : eb_okm mX10_breakLines 0 := ⟨wd_888, wd_62, by decide +kernel, by decide⟩
theorem okX10_change : eb_okm mX10_change 1 := ⟨wd_925, wd_62, by decide +kernel, by decide⟩
theorem okX10_clearWord : eb_okm mX10_clearWord 1 := ⟨wd_828, wd_62, by decide +kernel, by decide⟩
theorem okX10_cost : eb_okm mX10_cost 2 := ⟨wd_921, wd_62, by decide +kernel, by decide⟩
theorem okX10_costBy : eb_okm mX10_costBy 2 := ⟨wd_881, wd_62, by decide +kernel, by decide⟩
theorem okX10_costOf : eb_okm mX10_costOf 3 := ⟨wd_874, wd_62, by decide +kernel, by decide⟩
theorem okX10_drawOf : eb_okm mX10_drawOf 1 := ⟨wd_979, wd_62, by decide +kernel, by decide⟩
theorem okX10_drift : eb_okm mX10_drift 1 := ⟨wd_974, wd_62, by decide +kernel, by decide⟩
theorem okX10_end : eb_okm mX10_end 2 := ⟨wd_900, wd_62, by decide +kernel, by decide⟩
theorem okX10_fault : eb_okm mX10_fault 0 := ⟨wd_832, wd_62, by decide +kernel, by decide⟩
theorem okX10_fee : eb_okm mX10_fee 1 := ⟨wd_966, wd_62, by decide +kernel, by decide⟩
theorem okX10_feed : eb_okm mX10_feed 1 := ⟨wd_796, wd_62, by decide +kernel, by decide⟩
theorem okX10_first : eb_okm mX10_first 1 := ⟨wd_991, wd_62, by decide +kernel, by decide⟩
theorem okX10_firstOf : eb_okm mX10_firstOf 1 := ⟨wd_995, wd_62, by decide +kernel, by decide⟩
theorem okX10_free : eb_okm mX10_free 1 := ⟨wd_970, wd_62, by decide +kernel, by decide⟩
theorem okX10_goBack : eb_okm mX10_goBack 1 := ⟨wd_1034, wd_62, by decide +kernel, by decide⟩
theorem okX10_growsOf : eb_okm mX10_growsOf 1 := ⟨wd_892, wd_62, by decide +kernel, by decide⟩
theorem okX10_in : eb_okm mX10_in 3 := ⟨wd_800, wd_62, by decide +kernel, by decide⟩
theorem okX10_init : eb_okm mX10_init 0 := ⟨wd_702, wd_62, by decide +kernel, by decide⟩
theorem okX10_insert : eb_okm mX10_insert 1 := ⟨wd_934, wd_62, by decide +kernel, by decide⟩
theorem okX10_isEnd : eb_okm mX10_isEnd 1 := ⟨wd_904, wd_62, by decide +kernel, by decide⟩
theorem okX10_isWord : eb_okm mX10_isWord 1 := ⟨wd_840, wd_62, by decide +kernel, by decide⟩
theorem okX10_keep : eb_okm mX10_keep 1 := ⟨wd_1030, wd_62, by decide +kernel, by decide⟩
theorem okX10_known : eb_okm mX10_known 2 := ⟨wd_999, wd_62, by decide +kernel, by decide⟩
theorem okX10_lay : eb_okm mX10_lay 0 := ⟨wd_861, wd_62, by decide +kernel, by decide⟩
theorem okX10_layBy : eb_okm mX10_layBy 1 := ⟨wd_869, wd_62, by decide +kernel, by decide⟩
theorem okX10_layLines : eb_okm mX10_layLines 0 := ⟨wd_857, wd_62, by decide +kernel, by decide⟩
theorem okX10_layMeasures : eb_okm mX10_layMeasures 0 := ⟨wd_1054, wd_62, by decide +kernel, by decide⟩
theorem okX10_line : eb_okm mX10_line 2 := ⟨wd_917, wd_62, by decide +kernel, by decide⟩
theorem okX10_lineOf : eb_okm mX10_lineOf 1 := ⟨wd_853, wd_62, by decide +kernel, by decide⟩
theorem okX10_lineWidth : eb_okm mX10_lineWidth 2 := ⟨wd_878, wd_62, by decide +kernel, by decide⟩
theorem okX10_lookOf : eb_okm mX10_lookOf 0 := ⟨wd_1058, wd_62, by decide +kernel, by decide⟩
theorem okX10_measure : eb_okm mX10_measure 1 := ⟨wd_950, wd_62, by decide +kernel, by decide⟩
theorem okX10_measureWords : eb_okm mX10_measureWords 0 := ⟨wd_865, wd_62, by decide +kernel, by decide⟩
theorem okX10_moveWord : eb_okm mX10_moveWord 2 := ⟨wd_942, wd_62, by decide +kernel, by decide⟩
theorem okX10_note : eb_okm mX10_note 0 := ⟨wd_820, wd_62, by decide +kernel, by decide⟩
theorem okX10_ownerBy : eb_okm mX10_ownerBy 2 := ⟨wd_913, wd_62, by decide +kernel, by decide⟩
theorem okX10_putIn : eb_okm mX10_putIn 1 := ⟨wd_938, wd_62, by decide +kernel, by decide⟩
theorem okX10_readOne : eb_okm mX10_readOne 0 := ⟨wd_929, wd_62, by decide +kernel, by decide⟩
theorem okX10_readWords : eb_okm mX10_readWords 0 := ⟨wd_810, wd_62, by decide +kernel, by decide⟩
theorem okX10_rivers : eb_okm mX10_rivers 0 := ⟨wd_1046, wd_62, by decide +kernel, by decide⟩
theorem okX10_root : eb_okm mX10_root 1 := ⟨wd_884, wd_62, by decide +kernel, by decide⟩
theorem okX10_rule : eb_okm mX10_rule 1 := ⟨wd_962, wd_62, by decide +kernel, by decide⟩
theorem okX10_runsAt : eb_okm mX10_runsAt 1 := ⟨wd_909, wd_62, by decide +kernel, by decide⟩
theorem okX10_see : eb_okm mX10_see 2 := ⟨wd_1013, wd_62, by decide +kernel, by decide⟩
theorem okX10_seed : eb_okm mX10_seed 1 := ⟨wd_1026, wd_62, by decide +kernel, by decide⟩
theorem okX10_take : eb_okm mX10_take 1 := ⟨wd_946, wd_62, by decide +kernel, by decide⟩
theorem okX10_takeWord : eb_okm mX10_takeWord 2 := ⟨wd_824, wd_62, by decide +kernel, by decide⟩
theorem okX10_tear : eb_okm mX10_tear 0 := ⟨wd_1022, wd_62, by decide +kernel, by decide⟩
theorem okX10_told : eb_okm mX10_told 1 := ⟨wd_1038, wd_62, by decide +kernel, by decide⟩
theorem okX10_toldLines : eb_okm mX10_toldLines 1 := ⟨wd_1042, wd_62, by decide +kernel, by decide⟩
theorem okX10_toldMeasures : eb_okm mX10_toldMeasures 1 := ⟨wd_1050, wd_62, by decide +kernel, by decide⟩
theorem okX10_total : eb_okm mX10_total 0 := ⟨wd_958, wd_62, by decide +kernel, by decide⟩
theorem okX10_type : eb_okm mX10_type 0 := ⟨wd_806, wd_62, by decide +kernel, by decide⟩
theorem okX10_undo : eb_okm mX10_undo 1 := ⟨wd_987, wd_62, by decide +kernel, by decide⟩
theorem okX10_widthOf : eb_okm mX10_widthOf 1 := ⟨wd_849, wd_62, by decide +kernel, by decide⟩
theorem okX10_with : eb_okm mX10_with 1 := ⟨wd_1003, wd_62, by decide +kernel, by decide⟩
theorem okX10_word : eb_okm mX10_word 2 := ⟨wd_836, wd_62, by decide +kernel, by decide⟩
theorem okX10_wordWidth : eb_okm mX10_wordWidth 1 := ⟨wd_846, wd_62, by decide +kernel, by decide⟩
theorem okX10_write : eb_okm mX10_write 2 := ⟨wd_1017, wd_62, by decide +kernel, by decide⟩
theorem okX10_wrongEntry : eb_okm mX10_wrongEntry 0 := ⟨wd_1062, wd_62, by decide +kernel, by decide⟩
theorem okX10_wrongs : eb_okm mX10_wrongs 2 := ⟨wd_816, wd_62, by decide +kernel, by decide⟩
theorem okX1_draw : eb_okm mX1_draw 1 := ⟨wd_610, wd_56, by decide +kernel, by decide⟩
theorem okX1_drawWord : eb_okm mX1_drawWord 0 := ⟨wd_606, wd_56, by decide +kernel, by decide⟩
theorem okX1_init : eb_okm mX1_init 0 := ⟨wd_162, wd_56, by decide +kernel, by decide⟩
theorem okX2_init : eb_okm mX2_init 0 := ⟨wd_274, wd_60, by decide +kernel, by decide⟩
theorem okX3_beginOf : eb_okm mX3_beginOf 1 := ⟨wd_451, wd_58, by decide +kernel, by decide⟩
theorem okX3_endOf : eb_okm mX3_endOf 1 := ⟨wd_455, wd_58, by decide +kernel, by decide⟩
theorem okX3_firstCrossed : eb_okm mX3_firstCrossed 1 := ⟨wd_435, wd_58, by decide +kernel, by decide⟩
theorem okX3_firstFall : eb_okm mX3_firstFall 3 := ⟨wd_439, wd_58, by decide +kernel, by decide⟩
theorem okX3_hasGapAt : eb_okm mX3_hasGapAt 2 := ⟨wd_459, wd_58, by decide +kernel, by decide⟩
theorem okX3_init : eb_okm mX3_init 1 := ⟨wd_195, wd_58, by decide +kernel, by decide⟩
theorem okX3_isBegin : eb_okm mX3_isBegin 1 := ⟨wd_343, wd_58, by decide +kernel, by decide⟩
theorem okX3_lastTotal : eb_okm mX3_lastTotal 0 := ⟨wd_431, wd_58, by decide +kernel, by decide⟩
theorem okX3_layLines : eb_okm mX3_layLines 0 := ⟨wd_339, wd_58, by decide +kernel, by decide⟩
theorem okX3_leastWithLines : eb_okm mX3_leastWithLines 1 := ⟨wd_645, wd_58, by decide +kernel, by decide⟩
theorem okX3_leastWithOneMore : eb_okm mX3_leastWithOneMore 2 := ⟨wd_649, wd_58, by decide +kernel, by decide⟩
theorem okX3_lineOf : eb_okm mX3_lineOf 1 := ⟨wd_517, wd_58, by decide +kernel, by decide⟩
theorem okX3_load : eb_okm mX3_load 1 := ⟨wd_298, wd_58, by decide +kernel, by decide⟩
theorem okX3_loosePrice : eb_okm mX3_loosePrice 1 := ⟨wd_335, wd_58, by decide +kernel, by decide⟩
theorem okX3_ownerKnownTo : eb_okm mX3_ownerKnownTo 2 := ⟨wd_542, wd_58, by decide +kernel, by decide⟩
theorem okX3_price : eb_okm mX3_price 2 := ⟨wd_443, wd_58, by decide +kernel, by decide⟩
theorem okX3_priceOf : eb_okm mX3_priceOf 2 := ⟨wd_327, wd_58, by decide +kernel, by decide⟩
theorem okX3_rivers : eb_okm mX3_rivers 0 := ⟨wd_447, wd_58, by decide +kernel, by decide⟩
theorem okX3_runsAt : eb_okm mX3_runsAt 1 := ⟨wd_538, wd_58, by decide +kernel, by decide⟩
theorem okX3_settle : eb_okm mX3_settle 1 := ⟨wd_318, wd_58, by decide +kernel, by decide⟩
theorem okX3_solve : eb_okm mX3_solve 0 := ⟨wd_314, wd_58, by decide +kernel, by decide⟩
theorem okX3_tightPrice : eb_okm mX3_tightPrice 1 := ⟨wd_331, wd_58, by decide +kernel, by decide⟩
theorem okX3_widen : eb_okm mX3_widen 2 := ⟨wd_525, wd_58, by decide +kernel, by decide⟩
theorem okX3_widthOf : eb_okm mX3_widthOf 2 := ⟨wd_323, wd_58, by decide +kernel, by decide⟩
theorem okX4_giveBack : eb_okm mX4_giveBack 2 := ⟨wd_624, wd_55, by decide +kernel, by decide⟩
theorem okX4_init : eb_okm mX4_init 0 := ⟨wd_142, wd_55, by decide +kernel, by decide⟩
theorem okX4_remember : eb_okm mX4_remember 1 := ⟨wd_404, wd_55, by decide +kernel, by decide⟩
theorem okX5_lengthOf : eb_okm mX5_lengthOf 1 := ⟨wd_304, wd_61, by decide +kernel, by decide⟩
theorem okX5_letterAt : eb_okm mX5_letterAt 2 := ⟨wd_307, wd_61, by decide +kernel, by decide⟩
theorem okX5_letterWidth : eb_okm mX5_letterWidth 1 := ⟨wd_310, wd_61, by decide +kernel, by decide⟩
theorem okX5_widthOf : eb_okm mX5_widthOf 1 := ⟨wd_301, wd_61, by decide +kernel, by decide⟩
theorem okX5_withLetter : eb_okm mX5_withLetter 3 := ⟨wd_400, wd_61, by decide +kernel, by decide⟩
theorem okX6_bestMeasure : eb_okm mX6_bestMeasure 2 := ⟨wd_658, wd_59, by decide +kernel, by decide⟩
theorem okX6_fill : eb_okm mX6_fill 1 := ⟨wd_467, wd_59, by decide +kernel, by decide⟩
theorem okX6_fits : eb_okm mX6_fits 1 := ⟨wd_477, wd_59, by decide +kernel, by decide⟩
theorem okX6_fitting : eb_okm mX6_fitting 0 := ⟨wd_473, wd_59, by decide +kernel, by decide⟩
theorem okX6_fittingThatBegin : eb_okm mX6_fittingThatBegin 1 := ⟨wd_494, wd_59, by decide +kernel, by decide⟩
theorem okX6_forget : eb_okm mX6_forget 0 := ⟨wd_684, wd_59, by decide +kernel, by decide⟩
theorem okX6_greatestFitting : eb_okm mX6_greatestFitting 0 := ⟨wd_485, wd_59, by decide +kernel, by decide⟩
theorem okX6_init : eb_okm mX6_init 0 := ⟨wd_247, wd_59, by decide +kernel, by decide⟩
theorem okX6_leastFitting : eb_okm mX6_leastFitting 0 := ⟨wd_481, wd_59, by decide +kernel, by decide⟩
theorem okX6_look : eb_okm mX6_look 1 := ⟨wd_489, wd_59, by decide +kernel, by decide⟩
theorem okX6_note : eb_okm mX6_note 2 := ⟨wd_666, wd_59, by decide +kernel, by decide⟩
theorem okX7_become : eb_okm mX7_become 1 := ⟨wd_408, wd_53, by decide +kernel, by decide⟩
theorem okX7_hasEnd : eb_okm mX7_hasEnd 1 := ⟨wd_534, wd_53, by decide +kernel, by decide⟩
theorem okX7_hasWord : eb_okm mX7_hasWord 1 := ⟨wd_510, wd_53, by decide +kernel, by decide⟩
theorem okX7_init : eb_okm mX7_init 0 := ⟨wd_77, wd_53, by decide +kernel, by decide⟩
theorem okX7_putIn : eb_okm mX7_putIn 2 := ⟨wd_568, wd_53, by decide +kernel, by decide⟩
theorem okX7_setWords : eb_okm mX7_setWords 2 := ⟨wd_412, wd_53, by decide +kernel, by decide⟩
theorem okX7_takeOut : eb_okm mX7_takeOut 1 := ⟨wd_577, wd_53, by decide +kernel, by decide⟩
theorem okX8_add : eb_okm mX8_add 1 := ⟨wd_380, wd_54, by decide +kernel, by decide⟩
theorem okX8_addToWord : eb_okm mX8_addToWord 2 := ⟨wd_397, wd_54, by decide +kernel, by decide⟩
theorem okX8_faultOf : eb_okm mX8_faultOf 2 := ⟨wd_393, wd_54, by decide +kernel, by decide⟩
theorem okX8_init : eb_okm mX8_init 0 := ⟨wd_115, wd_54, by decide +kernel, by decide⟩
theorem okX8_read : eb_okm mX8_read 0 := ⟨wd_389, wd_54, by decide +kernel, by decide⟩
theorem okX9_best : eb_okm mX9_best 3 := ⟨wd_654, wd_52, by decide +kernel, by decide⟩
theorem okX9_change : eb_okm mX9_change 1 := ⟨wd_554, wd_52, by decide +kernel, by decide⟩
theorem okX9_cost : eb_okm mX9_cost 2 := ⟨wd_628, wd_52, by decide +kernel, by decide⟩
theorem okX9_drift : eb_okm mX9_drift 1 := ⟨wd_598, wd_52, by decide +kernel, by decide⟩
theorem okX9_driftOnce : eb_okm mX9_driftOnce 0 := ⟨wd_602, wd_52, by decide +kernel, by decide⟩
theorem okX9_end : eb_okm mX9_end 2 := ⟨wd_530, wd_52, by decide +kernel, by decide⟩
theorem okX9_fault : eb_okm mX9_fault 0 := ⟨wd_423, wd_52, by decide +kernel, by decide⟩
theorem okX9_fee : eb_okm mX9_fee 1 := ⟨wd_590, wd_52, by decide +kernel, by decide⟩
theorem okX9_feed : eb_okm mX9_feed 1 := ⟨wd_375, wd_52, by decide +kernel, by decide⟩
theorem okX9_first : eb_okm mX9_first 1 := ⟨wd_632, wd_52, by decide +kernel, by decide⟩
theorem okX9_free : eb_okm mX9_free 1 := ⟨wd_594, wd_52, by decide +kernel, by decide⟩
theorem okX9_goBack : eb_okm mX9_goBack 1 := ⟨wd_697, wd_52, by decide +kernel, by decide⟩
theorem okX9_grows : eb_okm mX9_grows 1 := ⟨wd_521, wd_52, by decide +kernel, by decide⟩
theorem okX9_init : eb_okm mX9_init 0 := ⟨wd_69, wd_52, by decide +kernel, by decide⟩
theorem okX9_insert : eb_okm mX9_insert 1 := ⟨wd_563, wd_52, by decide +kernel, by decide⟩
theorem okX9_keep : eb_okm mX9_keep 1 := ⟨wd_692, wd_52, by decide +kernel, by decide⟩
theorem okX9_known : eb_okm mX9_known 2 := ⟨wd_636, wd_52, by decide +kernel, by decide⟩
theorem okX9_layAnew : eb_okm mX9_layAnew 0 := ⟨wd_294, wd_52, by decide +kernel, by decide⟩
theorem okX9_line : eb_okm mX9_line 2 := ⟨wd_546, wd_52, by decide +kernel, by decide⟩
theorem okX9_measure : eb_okm mX9_measure 1 := ⟨wd_582, wd_52, by decide +kernel, by decide⟩
theorem okX9_readOneWord : eb_okm mX9_readOneWord 0 := ⟨wd_558, wd_52, by decide +kernel, by decide⟩
theorem okX9_rule : eb_okm mX9_rule 1 := ⟨wd_586, wd_52, by decide +kernel, by decide⟩
theorem okX9_see : eb_okm mX9_see 2 := ⟨wd_662, wd_52, by decide +kernel, by decide⟩
theorem okX9_seed : eb_okm mX9_seed 1 := ⟨wd_688, wd_52, by decide +kernel, by decide⟩
theorem okX9_surveyed : eb_okm mX9_surveyed 0 := ⟨wd_463, wd_52, by decide +kernel, by decide⟩
theorem okX9_tableOfRoots : eb_okm mX9_tableOfRoots 0 := ⟨wd_190, wd_52, by decide +kernel, by decide⟩
theorem okX9_take : eb_okm mX9_take 1 := ⟨wd_573, wd_52, by decide +kernel, by decide⟩
theorem okX9_tear : eb_okm mX9_tear 0 := ⟨wd_680, wd_52, by decide +kernel, by decide⟩
theorem okX9_told : eb_okm mX9_told 1 := ⟨wd_427, wd_52, by decide +kernel, by decide⟩
theorem okX9_type : eb_okm mX9_type 0 := ⟨wd_385, wd_52, by decide +kernel, by decide⟩
theorem okX9_undo : eb_okm mX9_undo 1 := ⟨wd_620, wd_52, by decide +kernel, by decide⟩
theorem okX9_with : eb_okm mX9_with 1 := ⟨wd_641, wd_52, by decide +kernel, by decide⟩
theorem okX9_word : eb_okm mX9_word 2 := ⟨wd_506, wd_52, by decide +kernel, by decide⟩
theorem okX9_write : eb_okm mX9_write 2 := ⟨wd_671, wd_52, by decide +kernel, by decide⟩
end
section
theorem eJ_max_0 : eb_at mJ_max 0 1 (.iload_n 0) 1 := ⟨by decide +kernel, rfl⟩
theorem eJ_max_1 : eb_at mJ_max 1 2 (.iload_n 1) 1 := ⟨by decide +kernel, rfl⟩
theorem eJ_max_2 : eb_at mJ_max 2 5 (.if_icmp .lt 7) 3 := ⟨by decide +kernel, rfl⟩
theorem eJ_max_5 : eb_at mJ_max 5 6 (.iload_n 0) 1 := ⟨by decide +kernel, rfl⟩
theorem eJ_max_6 : eb_at mJ_max 6 9 (.goto 4) 3 := ⟨by decide +kernel, rfl⟩
theorem eJ_max_9 : eb_at mJ_max 9 10 (.iload_n 1) 1 := ⟨by decide +kernel, rfl⟩
theorem eJ_max_10 : eb_at mJ_max 10 11 (.ireturn) 1 := ⟨by decide +kernel, rfl⟩
theorem eJ_min_0 : eb_at mJ_min 0 1 (.iload_n 0) 1 := ⟨by decide +kernel, rfl⟩
theorem eJ_min_1 : eb_at mJ_min 1 2 (.iload_n 1) 1 := ⟨by decide +kernel, rfl⟩
theorem eJ_min_2 : eb_at mJ_min 2 5 (.if_icmp .gt 7) 3 := ⟨by decide +kernel, rfl⟩
theorem eJ_min_5 : eb_at mJ_min 5 6 (.iload_n 0) 1 := ⟨by decide +kernel, rfl⟩
theorem eJ_min_6 : eb_at mJ_min 6 9 (.goto 4) 3 := ⟨by decide +kernel, rfl⟩
theorem eJ_min_9 : eb_at mJ_min 9 10 (.iload_n 1) 1 := ⟨by decide +kernel, rfl⟩
theorem eJ_min_10 : eb_at mJ_min 10 11 (.ireturn) 1 := ⟨by decide +kernel, rfl⟩
end
section
theorem eL_law_0 : eb_nw_at mL_law 0 3 8 [.null, .null, .null, .null, .null, .null, .null, .null, .null] 9 := ⟨7, (RX9, TX9, 9), by decide +kernel, rfl, rfl, rfl, wd_65, wd_66, wd_52, by decide +kernel⟩
theorem eL_law_3 : eb_at mL_law 3 4 (.dup) 1 := ⟨by decide +kernel, rfl⟩
theorem eL_law_4 : eb_cc mL_law 4 7 mX9_init 0 := ⟨9, by decide +kernel, rfl, Or.inl wd_67, rfl, wd_68, by decide, rfl, okX9_init⟩
theorem eL_law_7 : eb_at mL_law 7 8 (.astore_n 1) 1 := ⟨by decide +kernel, rfl⟩
theorem eL_law_8 : eb_nw_at mL_law 8 11 9 [.null, .null, .int (eb_I 0), .int (eb_I 0), .null, .int (eb_I 0), .int (eb_I 0), .null, .null, .int (eb_I 0), .null, .null, .null, .null, .null, .null, .int (eb_I 0), .null, .null, .int (eb_I 0), .null, .int (eb_I 0), .null, .null, .int (eb_I 0), .int (eb_I 0), .int (eb_I 0), .null, .null] 29 := ⟨10, (RX10, TX10, 29), by decide +kernel, rfl, rfl, rfl, wd_698, wd_699, wd_62, by decide +kernel⟩
theorem eL_law_11 : eb_at mL_law 11 12 (.dup) 1 := ⟨by decide +kernel, rfl⟩
theorem eL_law_12 : eb_cc mL_law 12 15 mX10_init 0 := ⟨12, by decide +kernel, rfl, Or.inl wd_700, rfl, wd_701, by decide, rfl, okX10_init⟩
theorem eL_law_15 : eb_at mL_law 15 16 (.astore_n 2) 1 := ⟨by decide +kernel, rfl⟩
theorem eL_law_16 : eb_at mL_law 16 17 (.iconst 0) 1 := ⟨by decide +kernel, rfl⟩
theorem eL_law_17 : eb_at mL_law 17 18 (.istore_n 3) 1 := ⟨by decide +kernel, rfl⟩
theorem eL_law_18 : eb_at mL_law 18 19 (.iload_n 3) 1 := ⟨by decide +kernel, rfl⟩
theorem eL_law_19 : eb_at mL_law 19 20 (.aload_n 0) 1 := ⟨by decide +kernel, rfl⟩
theorem eL_law_20 : eb_at mL_law 20 21 (.arraylength) 1 := ⟨by decide +kernel, rfl⟩
theorem eL_law_21 : eb_at mL_law 21 22 (.iconst 4) 1 := ⟨by decide +kernel, rfl⟩
theorem eL_law_22 : eb_at mL_law 22 23 (.isub) 1 := ⟨by decide +kernel, rfl⟩
theorem eL_law_23 : eb_at mL_law 23 26 (.if_icmp .gt 852) 3 := ⟨by decide +kernel, rfl⟩
theorem eL_law_26 : eb_at mL_law 26 27 (.aload_n 0) 1 := ⟨by decide +kernel, rfl⟩
theorem eL_law_27 : eb_at mL_law 27 28 (.iload_n 3) 1 := ⟨by decide +kernel, rfl⟩
theorem eL_law_28 : eb_at mL_law 28 29 (.iaload) 1 := ⟨by decide +kernel, rfl⟩
theorem eL_law_29 : eb_at mL_law 29 31 (.bipush 31) 2 := ⟨by decide +kernel, rfl⟩
theorem eL_law_31 : eb_at mL_law 31 32 (.iand) 1 := ⟨by decide +kernel, rfl⟩
theorem eL_law_32 : eb_at mL_law 32 156 (.tableswitch 837 0 26 #[124, 147, 160, 173, 196, 229, 262, 295, 318, 341, 364, 387, 410, 433, 472, 495, 518, 551, 574, 607, 630, 673, 722, 755, 768, 791, 814]) 124 := ⟨by decide +kernel, rfl⟩
theorem eL_law_156 : eb_at mL_law 156 157 (.aload_n 1) 1 := ⟨by decide +kernel, rfl⟩
theorem eL_law_157 : eb_at mL_law 157 158 (.aload_n 0) 1 := ⟨by decide +kernel, rfl⟩
theorem eL_law_158 : eb_at mL_law 158 159 (.iload_n 3) 1 := ⟨by decide +kernel, rfl⟩
theorem eL_law_159 : eb_at mL_law 159 160 (.iconst 1) 1 := ⟨by decide +kernel, rfl⟩
theorem eL_law_160 : eb_at mL_law 160 161 (.iadd) 1 := ⟨by decide +kernel, rfl⟩
theorem eL_law_161 : eb_at mL_law 161 162 (.iaload) 1 := ⟨by decide +kernel, rfl⟩
theorem eL_law_162 : eb_cv mL_law 162 165 mX9_feed 1 := ⟨13, (RX9, TX9, 9), by decide +kernel, rfl, wd_372, wd_373, wd_374, by decide, rfl, rfl, okX9_feed⟩
theorem eL_law_165 : eb_at mL_law 165 166 (.aload_n 2) 1 := ⟨by decide +kernel, rfl⟩
theorem eL_law_166 : eb_at mL_law 166 167 (.aload_n 0) 1 := ⟨by decide +kernel, rfl⟩
theorem eL_law_167 : eb_at mL_law 167 168 (.iload_n 3) 1 := ⟨by decide +kernel, rfl⟩
theorem eL_law_168 : eb_at mL_law 168 169 (.iconst 1) 1 := ⟨by decide +kernel, rfl⟩
theorem eL_law_169 : eb_at mL_law 169 170 (.iadd) 1 := ⟨by decide +kernel, rfl⟩
theorem eL_law_170 : eb_at mL_law 170 171 (.iaload) 1 := ⟨by decide +kernel, rfl⟩
theorem eL_law_171 : eb_cv mL_law 171 174 mX10_feed 1 := ⟨17, (RX10, TX10, 29), by decide +kernel, rfl, wd_793, wd_794, wd_795, by decide, rfl, rfl, okX10_feed⟩
theorem eL_law_174 : eb_at mL_law 174 177 (.if_icmp .eq 695) 3 := ⟨by decide +kernel, rfl⟩
theorem eL_law_177 : eb_at mL_law 177 178 (.iconst 0) 1 := ⟨by decide +kernel, rfl⟩
theorem eL_law_178 : eb_at mL_law 178 179 (.ireturn) 1 := ⟨by decide +kernel, rfl⟩
theorem eL_law_179 : eb_at mL_law 179 180 (.aload_n 1) 1 := ⟨by decide +kernel, rfl⟩
theorem eL_law_180 : eb_cv mL_law 180 183 mX9_type 0 := ⟨18, (RX9, TX9, 9), by decide +kernel, rfl, wd_382, wd_383, wd_384, by decide, rfl, rfl, okX9_type⟩
theorem eL_law_183 : eb_at mL_law 183 184 (.aload_n 2) 1 := ⟨by decide +kernel, rfl⟩
theorem eL_law_184 : eb_cv mL_law 184 187 mX10_type 0 := ⟨22, (RX10, TX10, 29), by decide +kernel, rfl, wd_803, wd_804, wd_805, by decide, rfl, rfl, okX10_type⟩
theorem eL_law_187 : eb_at mL_law 187 190 (.if_icmp .eq 682) 3 := ⟨by decide +kernel, rfl⟩
theorem eL_law_190 : eb_at mL_law 190 191 (.iconst 0) 1 := ⟨by decide +kernel, rfl⟩
theorem eL_law_191 : eb_at mL_law 191 192 (.ireturn) 1 := ⟨by decide +kernel, rfl⟩
theorem eL_law_192 : eb_at mL_law 192 193 (.aload_n 1) 1 := ⟨by decide +kernel, rfl⟩
theorem eL_law_193 : eb_cv mL_law 193 196 mX9_fault 0 := ⟨23, (RX9, TX9, 9), by decide +kernel, rfl, wd_420, wd_421, wd_422, by decide, rfl, rfl, okX9_fault⟩
theorem eL_law_196 : eb_at mL_law 196 197 (.aload_n 2) 1 := ⟨by decide +kernel, rfl⟩
theorem eL_law_197 : eb_cv mL_law 197 200 mX10_fault 0 := ⟨26, (RX10, TX10, 29), by decide +kernel, rfl, wd_829, wd_830, wd_831, by decide, rfl, rfl, okX10_fault⟩
theorem eL_law_200 : eb_at mL_law 200 203 (.if_icmp .eq 669) 3 := ⟨by decide +kernel, rfl⟩
theorem eL_law_203 : eb_at mL_law 203 204 (.iconst 0) 1 := ⟨by decide +kernel, rfl⟩
theorem eL_law_204 : eb_at mL_law 204 205 (.ireturn) 1 := ⟨by decide +kernel, rfl⟩
theorem eL_law_205 : eb_at mL_law 205 206 (.aload_n 1) 1 := ⟨by decide +kernel, rfl⟩
theorem eL_law_206 : eb_at mL_law 206 207 (.aload_n 0) 1 := ⟨by decide +kernel, rfl⟩
theorem eL_law_207 : eb_at mL_law 207 208 (.iload_n 3) 1 := ⟨by decide +kernel, rfl⟩
theorem eL_law_208 : eb_at mL_law 208 209 (.iconst 1) 1 := ⟨by decide +kernel, rfl⟩
theorem eL_law_209 : eb_at mL_law 209 210 (.iadd) 1 := ⟨by decide +kernel, rfl⟩
theorem eL_law_210 : eb_at mL_law 210 211 (.iaload) 1 := ⟨by decide +kernel, rfl⟩
theorem eL_law_211 : eb_cv mL_law 211 214 mX9_told 1 := ⟨27, (RX9, TX9, 9), by decide +kernel, rfl, wd_424, wd_425, wd_426, by decide, rfl, rfl, okX9_told⟩
theorem eL_law_214 : eb_at mL_law 214 215 (.aload_n 2) 1 := ⟨by decide +kernel, rfl⟩
theorem eL_law_215 : eb_at mL_law 215 216 (.aload_n 0) 1 := ⟨by decide +kernel, rfl⟩
theorem eL_law_216 : eb_at mL_law 216 217 (.iload_n 3) 1 := ⟨by decide +kernel, rfl⟩
theorem eL_law_217 : eb_at mL_law 217 218 (.iconst 1) 1 := ⟨by decide +kernel, rfl⟩
theorem eL_law_218 : eb_at mL_law 218 219 (.iadd) 1 := ⟨by decide +kernel, rfl⟩
theorem eL_law_219 : eb_at mL_law 219 220 (.iaload) 1 := ⟨by decide +kernel, rfl⟩
theorem eL_law_220 : eb_cv mL_law 220 223 mX10_told 1 := ⟨30, (RX10, TX10, 29), by decide +kernel, rfl, wd_1035, wd_1036, wd_1037, by decide, rfl, rfl, okX10_told⟩
theorem eL_law_223 : eb_at mL_law 223 226 (.if_icmp .eq 646) 3 := ⟨by decide +kernel, rfl⟩
theorem eL_law_226 : eb_at mL_law 226 227 (.iconst 0) 1 := ⟨by decide +kernel, rfl⟩
theorem eL_law_227 : eb_at mL_law 227 228 (.ireturn) 1 := ⟨by decide +kernel, rfl⟩
theorem eL_law_228 : eb_at mL_law 228 229 (.aload_n 1) 1 := ⟨by decide +kernel, rfl⟩
theorem eL_law_229 : eb_at mL_law 229 230 (.aload_n 0) 1 := ⟨by decide +kernel, rfl⟩
theorem eL_law_230 : eb_at mL_law 230 231 (.iload_n 3) 1 := ⟨by decide +kernel, rfl⟩
theorem eL_law_231 : eb_at mL_law 231 232 (.iconst 1) 1 := ⟨by decide +kernel, rfl⟩
theorem eL_law_232 : eb_at mL_law 232 233 (.iadd) 1 := ⟨by decide +kernel, rfl⟩
theorem eL_law_233 : eb_at mL_law 233 234 (.iaload) 1 := ⟨by decide +kernel, rfl⟩
theorem eL_law_234 : eb_at mL_law 234 235 (.aload_n 0) 1 := ⟨by decide +kernel, rfl⟩
theorem eL_law_235 : eb_at mL_law 235 236 (.iload_n 3) 1 := ⟨by decide +kernel, rfl⟩
theorem eL_law_236 : eb_at mL_law 236 237 (.iconst 2) 1 := ⟨by decide +kernel, rfl⟩
theorem eL_law_237 : eb_at mL_law 237 238 (.iadd) 1 := ⟨by decide +kernel, rfl⟩
theorem eL_law_238 : eb_at mL_law 238 239 (.iaload) 1 := ⟨by decide +kernel, rfl⟩
theorem eL_law_239 : eb_cv mL_law 239 242 mX9_word 2 := ⟨31, (RX9, TX9, 9), by decide +kernel, rfl, wd_503, wd_504, wd_505, by decide, rfl, rfl, okX9_word⟩
theorem eL_law_242 : eb_at mL_law 242 243 (.aload_n 2) 1 := ⟨by decide +kernel, rfl⟩
theorem eL_law_243 : eb_at mL_law 243 244 (.aload_n 0) 1 := ⟨by decide +kernel, rfl⟩
theorem eL_law_244 : eb_at mL_law 244 245 (.iload_n 3) 1 := ⟨by decide +kernel, rfl⟩
theorem eL_law_245 : eb_at mL_law 245 246 (.iconst 1) 1 := ⟨by decide +kernel, rfl⟩
theorem eL_law_246 : eb_at mL_law 246 247 (.iadd) 1 := ⟨by decide +kernel, rfl⟩
theorem eL_law_247 : eb_at mL_law 247 248 (.iaload) 1 := ⟨by decide +kernel, rfl⟩
theorem eL_law_248 : eb_at mL_law 248 249 (.aload_n 0) 1 := ⟨by decide +kernel, rfl⟩
theorem eL_law_249 : eb_at mL_law 249 250 (.iload_n 3) 1 := ⟨by decide +kernel, rfl⟩
theorem eL_law_250 : eb_at mL_law 250 251 (.iconst 2) 1 := ⟨by decide +kernel, rfl⟩
theorem eL_law_251 : eb_at mL_law 251 252 (.iadd) 1 := ⟨by decide +kernel, rfl⟩
theorem eL_law_252 : eb_at mL_law 252 253 (.iaload) 1 := ⟨by decide +kernel, rfl⟩
theorem eL_law_253 : eb_cv mL_law 253 256 mX10_word 2 := ⟨35, (RX10, TX10, 29), by decide +kernel, rfl, wd_833, wd_834, wd_835, by decide, rfl, rfl, okX10_word⟩
theorem eL_law_256 : eb_at mL_law 256 259 (.if_icmp .eq 613) 3 := ⟨by decide +kernel, rfl⟩
theorem eL_law_259 : eb_at mL_law 259 260 (.iconst 0) 1 := ⟨by decide +kernel, rfl⟩
theorem eL_law_260 : eb_at mL_law 260 261 (.ireturn) 1 := ⟨by decide +kernel, rfl⟩
theorem eL_law_261 : eb_at mL_law 261 262 (.aload_n 1) 1 := ⟨by decide +kernel, rfl⟩
theorem eL_law_262 : eb_at mL_law 262 263 (.aload_n 0) 1 := ⟨by decide +kernel, rfl⟩
theorem eL_law_263 : eb_at mL_law 263 264 (.iload_n 3) 1 := ⟨by decide +kernel, rfl⟩
theorem eL_law_264 : eb_at mL_law 264 265 (.iconst 1) 1 := ⟨by decide +kernel, rfl⟩
theorem eL_law_265 : eb_at mL_law 265 266 (.iadd) 1 := ⟨by decide +kernel, rfl⟩
theorem eL_law_266 : eb_at mL_law 266 267 (.iaload) 1 := ⟨by decide +kernel, rfl⟩
theorem eL_law_267 : eb_at mL_law 267 268 (.aload_n 0) 1 := ⟨by decide +kernel, rfl⟩
theorem eL_law_268 : eb_at mL_law 268 269 (.iload_n 3) 1 := ⟨by decide +kernel, rfl⟩
theorem eL_law_269 : eb_at mL_law 269 270 (.iconst 2) 1 := ⟨by decide +kernel, rfl⟩
theorem eL_law_270 : eb_at mL_law 270 271 (.iadd) 1 := ⟨by decide +kernel, rfl⟩
theorem eL_law_271 : eb_at mL_law 271 272 (.iaload) 1 := ⟨by decide +kernel, rfl⟩
theorem eL_law_272 : eb_cv mL_law 272 275 mX9_end 2 := ⟨36, (RX9, TX9, 9), by decide +kernel, rfl, wd_527, wd_528, wd_529, by decide, rfl, rfl, okX9_end⟩
theorem eL_law_275 : eb_at mL_law 275 276 (.aload_n 2) 1 := ⟨by decide +kernel, rfl⟩
theorem eL_law_276 : eb_at mL_law 276 277 (.aload_n 0) 1 := ⟨by decide +kernel, rfl⟩
theorem eL_law_277 : eb_at mL_law 277 278 (.iload_n 3) 1 := ⟨by decide +kernel, rfl⟩
theorem eL_law_278 : eb_at mL_law 278 279 (.iconst 1) 1 := ⟨by decide +kernel, rfl⟩
theorem eL_law_279 : eb_at mL_law 279 280 (.iadd) 1 := ⟨by decide +kernel, rfl⟩
theorem eL_law_280 : eb_at mL_law 280 281 (.iaload) 1 := ⟨by decide +kernel, rfl⟩
theorem eL_law_281 : eb_at mL_law 281 282 (.aload_n 0) 1 := ⟨by decide +kernel, rfl⟩
theorem eL_law_282 : eb_at mL_law 282 283 (.iload_n 3) 1 := ⟨by decide +kernel, rfl⟩
theorem eL_law_283 : eb_at mL_law 283 284 (.iconst 2) 1 := ⟨by decide +kernel, rfl⟩
theorem eL_law_284 : eb_at mL_law 284 285 (.iadd) 1 := ⟨by decide +kernel, rfl⟩
theorem eL_law_285 : eb_at mL_law 285 286 (.iaload) 1 := ⟨by decide +kernel, rfl⟩
theorem eL_law_286 : eb_cv mL_law 286 289 mX10_end 2 := ⟨39, (RX10, TX10, 29), by decide +kernel, rfl, wd_897, wd_898, wd_899, by decide, rfl, rfl, okX10_end⟩
theorem eL_law_289 : eb_at mL_law 289 292 (.if_icmp .eq 580) 3 := ⟨by decide +kernel, rfl⟩
theorem eL_law_292 : eb_at mL_law 292 293 (.iconst 0) 1 := ⟨by decide +kernel, rfl⟩
theorem eL_law_293 : eb_at mL_law 293 294 (.ireturn) 1 := ⟨by decide +kernel, rfl⟩
theorem eL_law_294 : eb_at mL_law 294 295 (.aload_n 1) 1 := ⟨by decide +kernel, rfl⟩
theorem eL_law_295 : eb_at mL_law 295 296 (.aload_n 0) 1 := ⟨by decide +kernel, rfl⟩
theorem eL_law_296 : eb_at mL_law 296 297 (.iload_n 3) 1 := ⟨by decide +kernel, rfl⟩
theorem eL_law_297 : eb_at mL_law 297 298 (.iconst 1) 1 := ⟨by decide +kernel, rfl⟩
theorem eL_law_298 : eb_at mL_law 298 299 (.iadd) 1 := ⟨by decide +kernel, rfl⟩
theorem eL_law_299 : eb_at mL_law 299 300 (.iaload) 1 := ⟨by decide +kernel, rfl⟩
theorem eL_law_300 : eb_at mL_law 300 301 (.aload_n 0) 1 := ⟨by decide +kernel, rfl⟩
theorem eL_law_301 : eb_at mL_law 301 302 (.iload_n 3) 1 := ⟨by decide +kernel, rfl⟩
theorem eL_law_302 : eb_at mL_law 302 303 (.iconst 2) 1 := ⟨by decide +kernel, rfl⟩
theorem eL_law_303 : eb_at mL_law 303 304 (.iadd) 1 := ⟨by decide +kernel, rfl⟩
theorem eL_law_304 : eb_at mL_law 304 305 (.iaload) 1 := ⟨by decide +kernel, rfl⟩
theorem eL_law_305 : eb_cv mL_law 305 308 mX9_line 2 := ⟨40, (RX9, TX9, 9), by decide +kernel, rfl, wd_543, wd_544, wd_545, by decide, rfl, rfl, okX9_line⟩
theorem eL_law_308 : eb_at mL_law 308 309 (.aload_n 2) 1 := ⟨by decide +kernel, rfl⟩
theorem eL_law_309 : eb_at mL_law 309 310 (.aload_n 0) 1 := ⟨by decide +kernel, rfl⟩
theorem eL_law_310 : eb_at mL_law 310 311 (.iload_n 3) 1 := ⟨by decide +kernel, rfl⟩
theorem eL_law_311 : eb_at mL_law 311 312 (.iconst 1) 1 := ⟨by decide +kernel, rfl⟩
theorem eL_law_312 : eb_at mL_law 312 313 (.iadd) 1 := ⟨by decide +kernel, rfl⟩
theorem eL_law_313 : eb_at mL_law 313 314 (.iaload) 1 := ⟨by decide +kernel, rfl⟩
theorem eL_law_314 : eb_at mL_law 314 315 (.aload_n 0) 1 := ⟨by decide +kernel, rfl⟩
theorem eL_law_315 : eb_at mL_law 315 316 (.iload_n 3) 1 := ⟨by decide +kernel, rfl⟩
theorem eL_law_316 : eb_at mL_law 316 317 (.iconst 2) 1 := ⟨by decide +kernel, rfl⟩
theorem eL_law_317 : eb_at mL_law 317 318 (.iadd) 1 := ⟨by decide +kernel, rfl⟩
theorem eL_law_318 : eb_at mL_law 318 319 (.iaload) 1 := ⟨by decide +kernel, rfl⟩
theorem eL_law_319 : eb_cv mL_law 319 322 mX10_line 2 := ⟨43, (RX10, TX10, 29), by decide +kernel, rfl, wd_914, wd_915, wd_916, by decide, rfl, rfl, okX10_line⟩
theorem eL_law_322 : eb_at mL_law 322 325 (.if_icmp .eq 547) 3 := ⟨by decide +kernel, rfl⟩
theorem eL_law_325 : eb_at mL_law 325 326 (.iconst 0) 1 := ⟨by decide +kernel, rfl⟩
theorem eL_law_326 : eb_at mL_law 326 327 (.ireturn) 1 := ⟨by decide +kernel, rfl⟩
theorem eL_law_327 : eb_at mL_law 327 328 (.aload_n 1) 1 := ⟨by decide +kernel, rfl⟩
theorem eL_law_328 : eb_at mL_law 328 329 (.aload_n 0) 1 := ⟨by decide +kernel, rfl⟩
theorem eL_law_329 : eb_at mL_law 329 330 (.iload_n 3) 1 := ⟨by decide +kernel, rfl⟩
theorem eL_law_330 : eb_at mL_law 330 331 (.iconst 1) 1 := ⟨by decide +kernel, rfl⟩
theorem eL_law_331 : eb_at mL_law 331 332 (.iadd) 1 := ⟨by decide +kernel, rfl⟩
theorem eL_law_332 : eb_at mL_law 332 333 (.iaload) 1 := ⟨by decide +kernel, rfl⟩
theorem eL_law_333 : eb_cv mL_law 333 336 mX9_change 1 := ⟨44, (RX9, TX9, 9), by decide +kernel, rfl, wd_551, wd_552, wd_553, by decide, rfl, rfl, okX9_change⟩
theorem eL_law_336 : eb_at mL_law 336 337 (.aload_n 2) 1 := ⟨by decide +kernel, rfl⟩
theorem eL_law_337 : eb_at mL_law 337 338 (.aload_n 0) 1 := ⟨by decide +kernel, rfl⟩
theorem eL_law_338 : eb_at mL_law 338 339 (.iload_n 3) 1 := ⟨by decide +kernel, rfl⟩
theorem eL_law_339 : eb_at mL_law 339 340 (.iconst 1) 1 := ⟨by decide +kernel, rfl⟩
theorem eL_law_340 : eb_at mL_law 340 341 (.iadd) 1 := ⟨by decide +kernel, rfl⟩
theorem eL_law_341 : eb_at mL_law 341 342 (.iaload) 1 := ⟨by decide +kernel, rfl⟩
theorem eL_law_342 : eb_cv mL_law 342 345 mX10_change 1 := ⟨47, (RX10, TX10, 29), by decide +kernel, rfl, wd_922, wd_923, wd_924, by decide, rfl, rfl, okX10_change⟩
theorem eL_law_345 : eb_at mL_law 345 348 (.if_icmp .eq 524) 3 := ⟨by decide +kernel, rfl⟩
theorem eL_law_348 : eb_at mL_law 348 349 (.iconst 0) 1 := ⟨by decide +kernel, rfl⟩
theorem eL_law_349 : eb_at mL_law 349 350 (.ireturn) 1 := ⟨by decide +kernel, rfl⟩
theorem eL_law_350 : eb_at mL_law 350 351 (.aload_n 1) 1 := ⟨by decide +kernel, rfl⟩
theorem eL_law_351 : eb_at mL_law 351 352 (.aload_n 0) 1 := ⟨by decide +kernel, rfl⟩
theorem eL_law_352 : eb_at mL_law 352 353 (.iload_n 3) 1 := ⟨by decide +kernel, rfl⟩
theorem eL_law_353 : eb_at mL_law 353 354 (.iconst 1) 1 := ⟨by decide +kernel, rfl⟩
theorem eL_law_354 : eb_at mL_law 354 355 (.iadd) 1 := ⟨by decide +kernel, rfl⟩
theorem eL_law_355 : eb_at mL_law 355 356 (.iaload) 1 := ⟨by decide +kernel, rfl⟩
theorem eL_law_356 : eb_cv mL_law 356 359 mX9_insert 1 := ⟨48, (RX9, TX9, 9), by decide +kernel, rfl, wd_560, wd_561, wd_562, by decide, rfl, rfl, okX9_insert⟩
theorem eL_law_359 : eb_at mL_law 359 360 (.aload_n 2) 1 := ⟨by decide +kernel, rfl⟩
theorem eL_law_360 : eb_at mL_law 360 361 (.aload_n 0) 1 := ⟨by decide +kernel, rfl⟩
theorem eL_law_361 : eb_at mL_law 361 362 (.iload_n 3) 1 := ⟨by decide +kernel, rfl⟩
theorem eL_law_362 : eb_at mL_law 362 363 (.iconst 1) 1 := ⟨by decide +kernel, rfl⟩
theorem eL_law_363 : eb_at mL_law 363 364 (.iadd) 1 := ⟨by decide +kernel, rfl⟩
theorem eL_law_364 : eb_at mL_law 364 365 (.iaload) 1 := ⟨by decide +kernel, rfl⟩
theorem eL_law_365 : eb_cv mL_law 365 368 mX10_insert 1 := ⟨51, (RX10, TX10, 29), by decide +kernel, rfl, wd_931, wd_932, wd_933, by decide, rfl, rfl, okX10_insert⟩
theorem eL_law_368 : eb_at mL_law 368 371 (.if_icmp .eq 501) 3 := ⟨by decide +kernel, rfl⟩
theorem eL_law_371 : eb_at mL_law 371 372 (.iconst 0) 1 := ⟨by decide +kernel, rfl⟩
theorem eL_law_372 : eb_at mL_law 372 373 (.ireturn) 1 := ⟨by decide +kernel, rfl⟩
theorem eL_law_373 : eb_at mL_law 373 374 (.aload_n 1) 1 := ⟨by decide +kernel, rfl⟩
theorem eL_law_374 : eb_at mL_law 374 375 (.aload_n 0) 1 := ⟨by decide +kernel, rfl⟩
theorem eL_law_375 : eb_at mL_law 375 376 (.iload_n 3) 1 := ⟨by decide +kernel, rfl⟩
theorem eL_law_376 : eb_at mL_law 376 377 (.iconst 1) 1 := ⟨by decide +kernel, rfl⟩
theorem eL_law_377 : eb_at mL_law 377 378 (.iadd) 1 := ⟨by decide +kernel, rfl⟩
theorem eL_law_378 : eb_at mL_law 378 379 (.iaload) 1 := ⟨by decide +kernel, rfl⟩
theorem eL_law_379 : eb_cv mL_law 379 382 mX9_take 1 := ⟨52, (RX9, TX9, 9), by decide +kernel, rfl, wd_570, wd_571, wd_572, by decide, rfl, rfl, okX9_take⟩
theorem eL_law_382 : eb_at mL_law 382 383 (.aload_n 2) 1 := ⟨by decide +kernel, rfl⟩
theorem eL_law_383 : eb_at mL_law 383 384 (.aload_n 0) 1 := ⟨by decide +kernel, rfl⟩
theorem eL_law_384 : eb_at mL_law 384 385 (.iload_n 3) 1 := ⟨by decide +kernel, rfl⟩
theorem eL_law_385 : eb_at mL_law 385 386 (.iconst 1) 1 := ⟨by decide +kernel, rfl⟩
theorem eL_law_386 : eb_at mL_law 386 387 (.iadd) 1 := ⟨by decide +kernel, rfl⟩
theorem eL_law_387 : eb_at mL_law 387 388 (.iaload) 1 := ⟨by decide +kernel, rfl⟩
theorem eL_law_388 : eb_cv mL_law 388 391 mX10_take 1 := ⟨55, (RX10, TX10, 29), by decide +kernel, rfl, wd_943, wd_944, wd_945, by decide, rfl, rfl, okX10_take⟩
theorem eL_law_391 : eb_at mL_law 391 394 (.if_icmp .eq 478) 3 := ⟨by decide +kernel, rfl⟩
theorem eL_law_394 : eb_at mL_law 394 395 (.iconst 0) 1 := ⟨by decide +kernel, rfl⟩
theorem eL_law_395 : eb_at mL_law 395 396 (.ireturn) 1 := ⟨by decide +kernel, rfl⟩
theorem eL_law_396 : eb_at mL_law 396 397 (.aload_n 1) 1 := ⟨by decide +kernel, rfl⟩
theorem eL_law_397 : eb_at mL_law 397 398 (.aload_n 0) 1 := ⟨by decide +kernel, rfl⟩
theorem eL_law_398 : eb_at mL_law 398 399 (.iload_n 3) 1 := ⟨by decide +kernel, rfl⟩
theorem eL_law_399 : eb_at mL_law 399 400 (.iconst 1) 1 := ⟨by decide +kernel, rfl⟩
theorem eL_law_400 : eb_at mL_law 400 401 (.iadd) 1 := ⟨by decide +kernel, rfl⟩
theorem eL_law_401 : eb_at mL_law 401 402 (.iaload) 1 := ⟨by decide +kernel, rfl⟩
theorem eL_law_402 : eb_cv mL_law 402 405 mX9_measure 1 := ⟨56, (RX9, TX9, 9), by decide +kernel, rfl, wd_579, wd_580, wd_581, by decide, rfl, rfl, okX9_measure⟩
theorem eL_law_405 : eb_at mL_law 405 406 (.aload_n 2) 1 := ⟨by decide +kernel, rfl⟩
theorem eL_law_406 : eb_at mL_law 406 407 (.aload_n 0) 1 := ⟨by decide +kernel, rfl⟩
theorem eL_law_407 : eb_at mL_law 407 408 (.iload_n 3) 1 := ⟨by decide +kernel, rfl⟩
theorem eL_law_408 : eb_at mL_law 408 409 (.iconst 1) 1 := ⟨by decide +kernel, rfl⟩
theorem eL_law_409 : eb_at mL_law 409 410 (.iadd) 1 := ⟨by decide +kernel, rfl⟩
theorem eL_law_410 : eb_at mL_law 410 411 (.iaload) 1 := ⟨by decide +kernel, rfl⟩
theorem eL_law_411 : eb_cv mL_law 411 414 mX10_measure 1 := ⟨59, (RX10, TX10, 29), by decide +kernel, rfl, wd_947, wd_948, wd_949, by decide, rfl, rfl, okX10_measure⟩
theorem eL_law_414 : eb_at mL_law 414 417 (.if_icmp .eq 455) 3 := ⟨by decide +kernel, rfl⟩
theorem eL_law_417 : eb_at mL_law 417 418 (.iconst 0) 1 := ⟨by decide +kernel, rfl⟩
theorem eL_law_418 : eb_at mL_law 418 419 (.ireturn) 1 := ⟨by decide +kernel, rfl⟩
theorem eL_law_419 : eb_at mL_law 419 420 (.aload_n 1) 1 := ⟨by decide +kernel, rfl⟩
theorem eL_law_420 : eb_at mL_law 420 421 (.aload_n 0) 1 := ⟨by decide +kernel, rfl⟩
theorem eL_law_421 : eb_at mL_law 421 422 (.iload_n 3) 1 := ⟨by decide +kernel, rfl⟩
theorem eL_law_422 : eb_at mL_law 422 423 (.iconst 1) 1 := ⟨by decide +kernel, rfl⟩
theorem eL_law_423 : eb_at mL_law 423 424 (.iadd) 1 := ⟨by decide +kernel, rfl⟩
theorem eL_law_424 : eb_at mL_law 424 425 (.iaload) 1 := ⟨by decide +kernel, rfl⟩
theorem eL_law_425 : eb_cv mL_law 425 428 mX9_rule 1 := ⟨60, (RX9, TX9, 9), by decide +kernel, rfl, wd_583, wd_584, wd_585, by decide, rfl, rfl, okX9_rule⟩
theorem eL_law_428 : eb_at mL_law 428 429 (.aload_n 2) 1 := ⟨by decide +kernel, rfl⟩
theorem eL_law_429 : eb_at mL_law 429 430 (.aload_n 0) 1 := ⟨by decide +kernel, rfl⟩
theorem eL_law_430 : eb_at mL_law 430 431 (.iload_n 3) 1 := ⟨by decide +kernel, rfl⟩
theorem eL_law_431 : eb_at mL_law 431 432 (.iconst 1) 1 := ⟨by decide +kernel, rfl⟩
theorem eL_law_432 : eb_at mL_law 432 433 (.iadd) 1 := ⟨by decide +kernel, rfl⟩
theorem eL_law_433 : eb_at mL_law 433 434 (.iaload) 1 := ⟨by decide +kernel, rfl⟩
theorem eL_law_434 : eb_cv mL_law 434 437 mX10_rule 1 := ⟨63, (RX10, TX10, 29), by decide +kernel, rfl, wd_959, wd_960, wd_961, by decide, rfl, rfl, okX10_rule⟩
theorem eL_law_437 : eb_at mL_law 437 440 (.if_icmp .eq 432) 3 := ⟨by decide +kernel, rfl⟩
theorem eL_law_440 : eb_at mL_law 440 441 (.iconst 0) 1 := ⟨by decide +kernel, rfl⟩
theorem eL_law_441 : eb_at mL_law 441 442 (.ireturn) 1 := ⟨by decide +kernel, rfl⟩
theorem eL_law_442 : eb_at mL_law 442 443 (.aload_n 1) 1 := ⟨by decide +kernel, rfl⟩
theorem eL_law_443 : eb_at mL_law 443 444 (.aload_n 0) 1 := ⟨by decide +kernel, rfl⟩
theorem eL_law_444 : eb_at mL_law 444 445 (.iload_n 3) 1 := ⟨by decide +kernel, rfl⟩
theorem eL_law_445 : eb_at mL_law 445 446 (.iconst 1) 1 := ⟨by decide +kernel, rfl⟩
theorem eL_law_446 : eb_at mL_law 446 447 (.iadd) 1 := ⟨by decide +kernel, rfl⟩
theorem eL_law_447 : eb_at mL_law 447 448 (.iaload) 1 := ⟨by decide +kernel, rfl⟩
theorem eL_law_448 : eb_cv mL_law 448 451 mX9_fee 1 := ⟨64, (RX9, TX9, 9), by decide +kernel, rfl, wd_587, wd_588, wd_589, by decide, rfl, rfl, okX9_fee⟩
theorem eL_law_451 : eb_at mL_law 451 452 (.aload_n 2) 1 := ⟨by decide +kernel, rfl⟩
theorem eL_law_452 : eb_at mL_law 452 453 (.aload_n 0) 1 := ⟨by decide +kernel, rfl⟩
theorem eL_law_453 : eb_at mL_law 453 454 (.iload_n 3) 1 := ⟨by decide +kernel, rfl⟩
theorem eL_law_454 : eb_at mL_law 454 455 (.iconst 1) 1 := ⟨by decide +kernel, rfl⟩
theorem eL_law_455 : eb_at mL_law 455 456 (.iadd) 1 := ⟨by decide +kernel, rfl⟩
theorem eL_law_456 : eb_at mL_law 456 457 (.iaload) 1 := ⟨by decide +kernel, rfl⟩
theorem eL_law_457 : eb_cv mL_law 457 460 mX10_fee 1 := ⟨67, (RX10, TX10, 29), by decide +kernel, rfl, wd_963, wd_964, wd_965, by decide, rfl, rfl, okX10_fee⟩
theorem eL_law_460 : eb_at mL_law 460 463 (.if_icmp .eq 409) 3 := ⟨by decide +kernel, rfl⟩
theorem eL_law_463 : eb_at mL_law 463 464 (.iconst 0) 1 := ⟨by decide +kernel, rfl⟩
theorem eL_law_464 : eb_at mL_law 464 465 (.ireturn) 1 := ⟨by decide +kernel, rfl⟩
theorem eL_law_465 : eb_at mL_law 465 466 (.aload_n 1) 1 := ⟨by decide +kernel, rfl⟩
theorem eL_law_466 : eb_at mL_law 466 467 (.aload_n 0) 1 := ⟨by decide +kernel, rfl⟩
theorem eL_law_467 : eb_at mL_law 467 468 (.iload_n 3) 1 := ⟨by decide +kernel, rfl⟩
theorem eL_law_468 : eb_at mL_law 468 469 (.iconst 1) 1 := ⟨by decide +kernel, rfl⟩
theorem eL_law_469 : eb_at mL_law 469 470 (.iadd) 1 := ⟨by decide +kernel, rfl⟩
theorem eL_law_470 : eb_at mL_law 470 471 (.iaload) 1 := ⟨by decide +kernel, rfl⟩
theorem eL_law_471 : eb_at mL_law 471 474 (.ifCond .eq 7) 3 := ⟨by decide +kernel, rfl⟩
theorem eL_law_474 : eb_at mL_law 474 475 (.iconst 1) 1 := ⟨by decide +kernel, rfl⟩
theorem eL_law_475 : eb_at mL_law 475 478 (.goto 4) 3 := ⟨by decide +kernel, rfl⟩
theorem eL_law_478 : eb_at mL_law 478 479 (.iconst 0) 1 := ⟨by decide +kernel, rfl⟩
theorem eL_law_479 : eb_cv mL_law 479 482 mX9_free 1 := ⟨68, (RX9, TX9, 9), by decide +kernel, rfl, wd_591, wd_592, wd_593, by decide, rfl, rfl, okX9_free⟩
theorem eL_law_482 : eb_at mL_law 482 483 (.aload_n 2) 1 := ⟨by decide +kernel, rfl⟩
theorem eL_law_483 : eb_at mL_law 483 484 (.aload_n 0) 1 := ⟨by decide +kernel, rfl⟩
theorem eL_law_484 : eb_at mL_law 484 485 (.iload_n 3) 1 := ⟨by decide +kernel, rfl⟩
theorem eL_law_485 : eb_at mL_law 485 486 (.iconst 1) 1 := ⟨by decide +kernel, rfl⟩
theorem eL_law_486 : eb_at mL_law 486 487 (.iadd) 1 := ⟨by decide +kernel, rfl⟩
theorem eL_law_487 : eb_at mL_law 487 488 (.iaload) 1 := ⟨by decide +kernel, rfl⟩
theorem eL_law_488 : eb_at mL_law 488 491 (.ifCond .eq 7) 3 := ⟨by decide +kernel, rfl⟩
theorem eL_law_491 : eb_at mL_law 491 492 (.iconst 1) 1 := ⟨by decide +kernel, rfl⟩
theorem eL_law_492 : eb_at mL_law 492 495 (.goto 4) 3 := ⟨by decide +kernel, rfl⟩
theorem eL_law_495 : eb_at mL_law 495 496 (.iconst 0) 1 := ⟨by decide +kernel, rfl⟩
theorem eL_law_496 : eb_cv mL_law 496 499 mX10_free 1 := ⟨72, (RX10, TX10, 29), by decide +kernel, rfl, wd_967, wd_968, wd_969, by decide, rfl, rfl, okX10_free⟩
theorem eL_law_499 : eb_at mL_law 499 502 (.if_icmp .eq 370) 3 := ⟨by decide +kernel, rfl⟩
theorem eL_law_502 : eb_at mL_law 502 503 (.iconst 0) 1 := ⟨by decide +kernel, rfl⟩
theorem eL_law_503 : eb_at mL_law 503 504 (.ireturn) 1 := ⟨by decide +kernel, rfl⟩
theorem eL_law_504 : eb_at mL_law 504 505 (.aload_n 1) 1 := ⟨by decide +kernel, rfl⟩
theorem eL_law_505 : eb_at mL_law 505 506 (.aload_n 0) 1 := ⟨by decide +kernel, rfl⟩
theorem eL_law_506 : eb_at mL_law 506 507 (.iload_n 3) 1 := ⟨by decide +kernel, rfl⟩
theorem eL_law_507 : eb_at mL_law 507 508 (.iconst 1) 1 := ⟨by decide +kernel, rfl⟩
theorem eL_law_508 : eb_at mL_law 508 509 (.iadd) 1 := ⟨by decide +kernel, rfl⟩
theorem eL_law_509 : eb_at mL_law 509 510 (.iaload) 1 := ⟨by decide +kernel, rfl⟩
theorem eL_law_510 : eb_cv mL_law 510 513 mX9_drift 1 := ⟨73, (RX9, TX9, 9), by decide +kernel, rfl, wd_595, wd_596, wd_597, by decide, rfl, rfl, okX9_drift⟩
theorem eL_law_513 : eb_at mL_law 513 514 (.aload_n 2) 1 := ⟨by decide +kernel, rfl⟩
theorem eL_law_514 : eb_at mL_law 514 515 (.aload_n 0) 1 := ⟨by decide +kernel, rfl⟩
theorem eL_law_515 : eb_at mL_law 515 516 (.iload_n 3) 1 := ⟨by decide +kernel, rfl⟩
theorem eL_law_516 : eb_at mL_law 516 517 (.iconst 1) 1 := ⟨by decide +kernel, rfl⟩
theorem eL_law_517 : eb_at mL_law 517 518 (.iadd) 1 := ⟨by decide +kernel, rfl⟩
theorem eL_law_518 : eb_at mL_law 518 519 (.iaload) 1 := ⟨by decide +kernel, rfl⟩
theorem eL_law_519 : eb_cv mL_law 519 522 mX10_drift 1 := ⟨76, (RX10, TX10, 29), by decide +kernel, rfl, wd_971, wd_972, wd_973, by decide, rfl, rfl, okX10_drift⟩
theorem eL_law_522 : eb_at mL_law 522 525 (.if_icmp .eq 347) 3 := ⟨by decide +kernel, rfl⟩
theorem eL_law_525 : eb_at mL_law 525 526 (.iconst 0) 1 := ⟨by decide +kernel, rfl⟩
theorem eL_law_526 : eb_at mL_law 526 527 (.ireturn) 1 := ⟨by decide +kernel, rfl⟩
theorem eL_law_527 : eb_at mL_law 527 528 (.aload_n 1) 1 := ⟨by decide +kernel, rfl⟩
theorem eL_law_528 : eb_at mL_law 528 529 (.aload_n 0) 1 := ⟨by decide +kernel, rfl⟩
theorem eL_law_529 : eb_at mL_law 529 530 (.iload_n 3) 1 := ⟨by decide +kernel, rfl⟩
theorem eL_law_530 : eb_at mL_law 530 531 (.iconst 1) 1 := ⟨by decide +kernel, rfl⟩
theorem eL_law_531 : eb_at mL_law 531 532 (.iadd) 1 := ⟨by decide +kernel, rfl⟩
theorem eL_law_532 : eb_at mL_law 532 533 (.iaload) 1 := ⟨by decide +kernel, rfl⟩
theorem eL_law_533 : eb_cv mL_law 533 536 mX9_undo 1 := ⟨77, (RX9, TX9, 9), by decide +kernel, rfl, wd_617, wd_618, wd_619, by decide, rfl, rfl, okX9_undo⟩
theorem eL_law_536 : eb_at mL_law 536 537 (.aload_n 2) 1 := ⟨by decide +kernel, rfl⟩
theorem eL_law_537 : eb_at mL_law 537 538 (.aload_n 0) 1 := ⟨by decide +kernel, rfl⟩
theorem eL_law_538 : eb_at mL_law 538 539 (.iload_n 3) 1 := ⟨by decide +kernel, rfl⟩
theorem eL_law_539 : eb_at mL_law 539 540 (.iconst 1) 1 := ⟨by decide +kernel, rfl⟩
theorem eL_law_540 : eb_at mL_law 540 541 (.iadd) 1 := ⟨by decide +kernel, rfl⟩
theorem eL_law_541 : eb_at mL_law 541 542 (.iaload) 1 := ⟨by decide +kernel, rfl⟩
theorem eL_law_542 : eb_cv mL_law 542 545 mX10_undo 1 := ⟨80, (RX10, TX10, 29), by decide +kernel, rfl, wd_984, wd_985, wd_986, by decide, rfl, rfl, okX10_undo⟩
theorem eL_law_545 : eb_at mL_law 545 548 (.if_icmp .eq 324) 3 := ⟨by decide +kernel, rfl⟩
theorem eL_law_548 : eb_at mL_law 548 549 (.iconst 0) 1 := ⟨by decide +kernel, rfl⟩
theorem eL_law_549 : eb_at mL_law 549 550 (.ireturn) 1 := ⟨by decide +kernel, rfl⟩
theorem eL_law_550 : eb_at mL_law 550 551 (.aload_n 1) 1 := ⟨by decide +kernel, rfl⟩
theorem eL_law_551 : eb_at mL_law 551 552 (.aload_n 0) 1 := ⟨by decide +kernel, rfl⟩
theorem eL_law_552 : eb_at mL_law 552 553 (.iload_n 3) 1 := ⟨by decide +kernel, rfl⟩
theorem eL_law_553 : eb_at mL_law 553 554 (.iconst 1) 1 := ⟨by decide +kernel, rfl⟩
theorem eL_law_554 : eb_at mL_law 554 555 (.iadd) 1 := ⟨by decide +kernel, rfl⟩
theorem eL_law_555 : eb_at mL_law 555 556 (.iaload) 1 := ⟨by decide +kernel, rfl⟩
theorem eL_law_556 : eb_at mL_law 556 557 (.aload_n 0) 1 := ⟨by decide +kernel, rfl⟩
theorem eL_law_557 : eb_at mL_law 557 558 (.iload_n 3) 1 := ⟨by decide +kernel, rfl⟩
theorem eL_law_558 : eb_at mL_law 558 559 (.iconst 2) 1 := ⟨by decide +kernel, rfl⟩
theorem eL_law_559 : eb_at mL_law 559 560 (.iadd) 1 := ⟨by decide +kernel, rfl⟩
theorem eL_law_560 : eb_at mL_law 560 561 (.iaload) 1 := ⟨by decide +kernel, rfl⟩
theorem eL_law_561 : eb_cv mL_law 561 564 mX9_cost 2 := ⟨81, (RX9, TX9, 9), by decide +kernel, rfl, wd_625, wd_626, wd_627, by decide, rfl, rfl, okX9_cost⟩
theorem eL_law_564 : eb_at mL_law 564 565 (.aload_n 2) 1 := ⟨by decide +kernel, rfl⟩
theorem eL_law_565 : eb_at mL_law 565 566 (.aload_n 0) 1 := ⟨by decide +kernel, rfl⟩
theorem eL_law_566 : eb_at mL_law 566 567 (.iload_n 3) 1 := ⟨by decide +kernel, rfl⟩
theorem eL_law_567 : eb_at mL_law 567 568 (.iconst 1) 1 := ⟨by decide +kernel, rfl⟩
theorem eL_law_568 : eb_at mL_law 568 569 (.iadd) 1 := ⟨by decide +kernel, rfl⟩
theorem eL_law_569 : eb_at mL_law 569 570 (.iaload) 1 := ⟨by decide +kernel, rfl⟩
theorem eL_law_570 : eb_at mL_law 570 571 (.aload_n 0) 1 := ⟨by decide +kernel, rfl⟩
theorem eL_law_571 : eb_at mL_law 571 572 (.iload_n 3) 1 := ⟨by decide +kernel, rfl⟩
theorem eL_law_572 : eb_at mL_law 572 573 (.iconst 2) 1 := ⟨by decide +kernel, rfl⟩
theorem eL_law_573 : eb_at mL_law 573 574 (.iadd) 1 := ⟨by decide +kernel, rfl⟩
theorem eL_law_574 : eb_at mL_law 574 575 (.iaload) 1 := ⟨by decide +kernel, rfl⟩
theorem eL_law_575 : eb_cv mL_law 575 578 mX10_cost 2 := ⟨84, (RX10, TX10, 29), by decide +kernel, rfl, wd_918, wd_919, wd_920, by decide, rfl, rfl, okX10_cost⟩
theorem eL_law_578 : eb_at mL_law 578 581 (.if_icmp .eq 291) 3 := ⟨by decide +kernel, rfl⟩
theorem eL_law_581 : eb_at mL_law 581 582 (.iconst 0) 1 := ⟨by decide +kernel, rfl⟩
theorem eL_law_582 : eb_at mL_law 582 583 (.ireturn) 1 := ⟨by decide +kernel, rfl⟩
theorem eL_law_583 : eb_at mL_law 583 584 (.aload_n 1) 1 := ⟨by decide +kernel, rfl⟩
theorem eL_law_584 : eb_at mL_law 584 585 (.aload_n 0) 1 := ⟨by decide +kernel, rfl⟩
theorem eL_law_585 : eb_at mL_law 585 586 (.iload_n 3) 1 := ⟨by decide +kernel, rfl⟩
theorem eL_law_586 : eb_at mL_law 586 587 (.iconst 1) 1 := ⟨by decide +kernel, rfl⟩
theorem eL_law_587 : eb_at mL_law 587 588 (.iadd) 1 := ⟨by decide +kernel, rfl⟩
theorem eL_law_588 : eb_at mL_law 588 589 (.iaload) 1 := ⟨by decide +kernel, rfl⟩
theorem eL_law_589 : eb_cv mL_law 589 592 mX9_first 1 := ⟨85, (RX9, TX9, 9), by decide +kernel, rfl, wd_629, wd_630, wd_631, by decide, rfl, rfl, okX9_first⟩
theorem eL_law_592 : eb_at mL_law 592 593 (.aload_n 2) 1 := ⟨by decide +kernel, rfl⟩
theorem eL_law_593 : eb_at mL_law 593 594 (.aload_n 0) 1 := ⟨by decide +kernel, rfl⟩
theorem eL_law_594 : eb_at mL_law 594 595 (.iload_n 3) 1 := ⟨by decide +kernel, rfl⟩
theorem eL_law_595 : eb_at mL_law 595 596 (.iconst 1) 1 := ⟨by decide +kernel, rfl⟩
theorem eL_law_596 : eb_at mL_law 596 597 (.iadd) 1 := ⟨by decide +kernel, rfl⟩
theorem eL_law_597 : eb_at mL_law 597 598 (.iaload) 1 := ⟨by decide +kernel, rfl⟩
theorem eL_law_598 : eb_cv mL_law 598 601 mX10_first 1 := ⟨88, (RX10, TX10, 29), by decide +kernel, rfl, wd_988, wd_989, wd_990, by decide, rfl, rfl, okX10_first⟩
theorem eL_law_601 : eb_at mL_law 601 604 (.if_icmp .eq 268) 3 := ⟨by decide +kernel, rfl⟩
theorem eL_law_604 : eb_at mL_law 604 605 (.iconst 0) 1 := ⟨by decide +kernel, rfl⟩
theorem eL_law_605 : eb_at mL_law 605 606 (.ireturn) 1 := ⟨by decide +kernel, rfl⟩
theorem eL_law_606 : eb_at mL_law 606 607 (.aload_n 1) 1 := ⟨by decide +kernel, rfl⟩
theorem eL_law_607 : eb_at mL_law 607 608 (.aload_n 0) 1 := ⟨by decide +kernel, rfl⟩
theorem eL_law_608 : eb_at mL_law 608 609 (.iload_n 3) 1 := ⟨by decide +kernel, rfl⟩
theorem eL_law_609 : eb_at mL_law 609 610 (.iconst 1) 1 := ⟨by decide +kernel, rfl⟩
theorem eL_law_610 : eb_at mL_law 610 611 (.iadd) 1 := ⟨by decide +kernel, rfl⟩
theorem eL_law_611 : eb_at mL_law 611 612 (.iaload) 1 := ⟨by decide +kernel, rfl⟩
theorem eL_law_612 : eb_at mL_law 612 613 (.aload_n 0) 1 := ⟨by decide +kernel, rfl⟩
theorem eL_law_613 : eb_at mL_law 613 614 (.iload_n 3) 1 := ⟨by decide +kernel, rfl⟩
theorem eL_law_614 : eb_at mL_law 614 615 (.iconst 2) 1 := ⟨by decide +kernel, rfl⟩
theorem eL_law_615 : eb_at mL_law 615 616 (.iadd) 1 := ⟨by decide +kernel, rfl⟩
theorem eL_law_616 : eb_at mL_law 616 617 (.iaload) 1 := ⟨by decide +kernel, rfl⟩
theorem eL_law_617 : eb_cv mL_law 617 620 mX9_known 2 := ⟨89, (RX9, TX9, 9), by decide +kernel, rfl, wd_633, wd_634, wd_635, by decide, rfl, rfl, okX9_known⟩
theorem eL_law_620 : eb_at mL_law 620 621 (.aload_n 2) 1 := ⟨by decide +kernel, rfl⟩
theorem eL_law_621 : eb_at mL_law 621 622 (.aload_n 0) 1 := ⟨by decide +kernel, rfl⟩
theorem eL_law_622 : eb_at mL_law 622 623 (.iload_n 3) 1 := ⟨by decide +kernel, rfl⟩
theorem eL_law_623 : eb_at mL_law 623 624 (.iconst 1) 1 := ⟨by decide +kernel, rfl⟩
theorem eL_law_624 : eb_at mL_law 624 625 (.iadd) 1 := ⟨by decide +kernel, rfl⟩
theorem eL_law_625 : eb_at mL_law 625 626 (.iaload) 1 := ⟨by decide +kernel, rfl⟩
theorem eL_law_626 : eb_at mL_law 626 627 (.aload_n 0) 1 := ⟨by decide +kernel, rfl⟩
theorem eL_law_627 : eb_at mL_law 627 628 (.iload_n 3) 1 := ⟨by decide +kernel, rfl⟩
theorem eL_law_628 : eb_at mL_law 628 629 (.iconst 2) 1 := ⟨by decide +kernel, rfl⟩
theorem eL_law_629 : eb_at mL_law 629 630 (.iadd) 1 := ⟨by decide +kernel, rfl⟩
theorem eL_law_630 : eb_at mL_law 630 631 (.iaload) 1 := ⟨by decide +kernel, rfl⟩
theorem eL_law_631 : eb_cv mL_law 631 634 mX10_known 2 := ⟨92, (RX10, TX10, 29), by decide +kernel, rfl, wd_996, wd_997, wd_998, by decide, rfl, rfl, okX10_known⟩
theorem eL_law_634 : eb_at mL_law 634 637 (.if_icmp .eq 235) 3 := ⟨by decide +kernel, rfl⟩
theorem eL_law_637 : eb_at mL_law 637 638 (.iconst 0) 1 := ⟨by decide +kernel, rfl⟩
theorem eL_law_638 : eb_at mL_law 638 639 (.ireturn) 1 := ⟨by decide +kernel, rfl⟩
theorem eL_law_639 : eb_at mL_law 639 640 (.aload_n 1) 1 := ⟨by decide +kernel, rfl⟩
theorem eL_law_640 : eb_at mL_law 640 641 (.aload_n 0) 1 := ⟨by decide +kernel, rfl⟩
theorem eL_law_641 : eb_at mL_law 641 642 (.iload_n 3) 1 := ⟨by decide +kernel, rfl⟩
theorem eL_law_642 : eb_at mL_law 642 643 (.iconst 1) 1 := ⟨by decide +kernel, rfl⟩
theorem eL_law_643 : eb_at mL_law 643 644 (.iadd) 1 := ⟨by decide +kernel, rfl⟩
theorem eL_law_644 : eb_at mL_law 644 645 (.iaload) 1 := ⟨by decide +kernel, rfl⟩
theorem eL_law_645 : eb_cv mL_law 645 648 mX9_with 1 := ⟨93, (RX9, TX9, 9), by decide +kernel, rfl, wd_638, wd_639, wd_640, by decide, rfl, rfl, okX9_with⟩
theorem eL_law_648 : eb_at mL_law 648 649 (.aload_n 2) 1 := ⟨by decide +kernel, rfl⟩
theorem eL_law_649 : eb_at mL_law 649 650 (.aload_n 0) 1 := ⟨by decide +kernel, rfl⟩
theorem eL_law_650 : eb_at mL_law 650 651 (.iload_n 3) 1 := ⟨by decide +kernel, rfl⟩
theorem eL_law_651 : eb_at mL_law 651 652 (.iconst 1) 1 := ⟨by decide +kernel, rfl⟩
theorem eL_law_652 : eb_at mL_law 652 653 (.iadd) 1 := ⟨by decide +kernel, rfl⟩
theorem eL_law_653 : eb_at mL_law 653 654 (.iaload) 1 := ⟨by decide +kernel, rfl⟩
theorem eL_law_654 : eb_cv mL_law 654 657 mX10_with 1 := ⟨96, (RX10, TX10, 29), by decide +kernel, rfl, wd_1000, wd_1001, wd_1002, by decide, rfl, rfl, okX10_with⟩
theorem eL_law_657 : eb_at mL_law 657 660 (.if_icmp .eq 212) 3 := ⟨by decide +kernel, rfl⟩
theorem eL_law_660 : eb_at mL_law 660 661 (.iconst 0) 1 := ⟨by decide +kernel, rfl⟩
theorem eL_law_661 : eb_at mL_law 661 662 (.ireturn) 1 := ⟨by decide +kernel, rfl⟩
theorem eL_law_662 : eb_at mL_law 662 663 (.aload_n 1) 1 := ⟨by decide +kernel, rfl⟩
theorem eL_law_663 : eb_at mL_law 663 664 (.aload_n 0) 1 := ⟨by decide +kernel, rfl⟩
theorem eL_law_664 : eb_at mL_law 664 665 (.iload_n 3) 1 := ⟨by decide +kernel, rfl⟩
theorem eL_law_665 : eb_at mL_law 665 666 (.iconst 1) 1 := ⟨by decide +kernel, rfl⟩
theorem eL_law_666 : eb_at mL_law 666 667 (.iadd) 1 := ⟨by decide +kernel, rfl⟩
theorem eL_law_667 : eb_at mL_law 667 668 (.iaload) 1 := ⟨by decide +kernel, rfl⟩
theorem eL_law_668 : eb_at mL_law 668 669 (.aload_n 0) 1 := ⟨by decide +kernel, rfl⟩
theorem eL_law_669 : eb_at mL_law 669 670 (.iload_n 3) 1 := ⟨by decide +kernel, rfl⟩
theorem eL_law_670 : eb_at mL_law 670 671 (.iconst 2) 1 := ⟨by decide +kernel, rfl⟩
theorem eL_law_671 : eb_at mL_law 671 672 (.iadd) 1 := ⟨by decide +kernel, rfl⟩
theorem eL_law_672 : eb_at mL_law 672 673 (.iaload) 1 := ⟨by decide +kernel, rfl⟩
theorem eL_law_673 : eb_at mL_law 673 674 (.aload_n 0) 1 := ⟨by decide +kernel, rfl⟩
theorem eL_law_674 : eb_at mL_law 674 675 (.iload_n 3) 1 := ⟨by decide +kernel, rfl⟩
theorem eL_law_675 : eb_at mL_law 675 676 (.iconst 3) 1 := ⟨by decide +kernel, rfl⟩
theorem eL_law_676 : eb_at mL_law 676 677 (.iadd) 1 := ⟨by decide +kernel, rfl⟩
theorem eL_law_677 : eb_at mL_law 677 678 (.iaload) 1 := ⟨by decide +kernel, rfl⟩
theorem eL_law_678 : eb_cv mL_law 678 681 mX9_best 3 := ⟨97, (RX9, TX9, 9), by decide +kernel, rfl, wd_651, wd_652, wd_653, by decide, rfl, rfl, okX9_best⟩
theorem eL_law_681 : eb_at mL_law 681 682 (.aload_n 2) 1 := ⟨by decide +kernel, rfl⟩
theorem eL_law_682 : eb_at mL_law 682 683 (.aload_n 0) 1 := ⟨by decide +kernel, rfl⟩
theorem eL_law_683 : eb_at mL_law 683 684 (.iload_n 3) 1 := ⟨by decide +kernel, rfl⟩
theorem eL_law_684 : eb_at mL_law 684 685 (.iconst 1) 1 := ⟨by decide +kernel, rfl⟩
theorem eL_law_685 : eb_at mL_law 685 686 (.iadd) 1 := ⟨by decide +kernel, rfl⟩
theorem eL_law_686 : eb_at mL_law 686 687 (.iaload) 1 := ⟨by decide +kernel, rfl⟩
theorem eL_law_687 : eb_at mL_law 687 688 (.aload_n 0) 1 := ⟨by decide +kernel, rfl⟩
theorem eL_law_688 : eb_at mL_law 688 689 (.iload_n 3) 1 := ⟨by decide +kernel, rfl⟩
theorem eL_law_689 : eb_at mL_law 689 690 (.iconst 2) 1 := ⟨by decide +kernel, rfl⟩
theorem eL_law_690 : eb_at mL_law 690 691 (.iadd) 1 := ⟨by decide +kernel, rfl⟩
theorem eL_law_691 : eb_at mL_law 691 692 (.iaload) 1 := ⟨by decide +kernel, rfl⟩
theorem eL_law_692 : eb_at mL_law 692 693 (.aload_n 0) 1 := ⟨by decide +kernel, rfl⟩
theorem eL_law_693 : eb_at mL_law 693 694 (.iload_n 3) 1 := ⟨by decide +kernel, rfl⟩
theorem eL_law_694 : eb_at mL_law 694 695 (.iconst 3) 1 := ⟨by decide +kernel, rfl⟩
theorem eL_law_695 : eb_at mL_law 695 696 (.iadd) 1 := ⟨by decide +kernel, rfl⟩
theorem eL_law_696 : eb_at mL_law 696 697 (.iaload) 1 := ⟨by decide +kernel, rfl⟩
theorem eL_law_697 : eb_cv mL_law 697 700 mX10_best 3 := ⟨101, (RX10, TX10, 29), by decide +kernel, rfl, wd_1005, wd_1006, wd_1007, by decide, rfl, rfl, okX10_best⟩
theorem eL_law_700 : eb_at mL_law 700 703 (.if_icmp .eq 169) 3 := ⟨by decide +kernel, rfl⟩
theorem eL_law_703 : eb_at mL_law 703 704 (.iconst 0) 1 := ⟨by decide +kernel, rfl⟩
theorem eL_law_704 : eb_at mL_law 704 705 (.ireturn) 1 := ⟨by decide +kernel, rfl⟩
theorem eL_law_705 : eb_at mL_law 705 706 (.aload_n 1) 1 := ⟨by decide +kernel, rfl⟩
theorem eL_law_706 : eb_at mL_law 706 707 (.aload_n 0) 1 := ⟨by decide +kernel, rfl⟩
theorem eL_law_707 : eb_at mL_law 707 708 (.iload_n 3) 1 := ⟨by decide +kernel, rfl⟩
theorem eL_law_708 : eb_at mL_law 708 709 (.iconst 1) 1 := ⟨by decide +kernel, rfl⟩
theorem eL_law_709 : eb_at mL_law 709 710 (.iadd) 1 := ⟨by decide +kernel, rfl⟩
theorem eL_law_710 : eb_at mL_law 710 711 (.iaload) 1 := ⟨by decide +kernel, rfl⟩
theorem eL_law_711 : eb_at mL_law 711 712 (.aload_n 0) 1 := ⟨by decide +kernel, rfl⟩
theorem eL_law_712 : eb_at mL_law 712 713 (.iload_n 3) 1 := ⟨by decide +kernel, rfl⟩
theorem eL_law_713 : eb_at mL_law 713 714 (.iconst 2) 1 := ⟨by decide +kernel, rfl⟩
theorem eL_law_714 : eb_at mL_law 714 715 (.iadd) 1 := ⟨by decide +kernel, rfl⟩
theorem eL_law_715 : eb_at mL_law 715 716 (.iaload) 1 := ⟨by decide +kernel, rfl⟩
theorem eL_law_716 : eb_at mL_law 716 719 (.ifCond .eq 7) 3 := ⟨by decide +kernel, rfl⟩
theorem eL_law_719 : eb_at mL_law 719 720 (.iconst 1) 1 := ⟨by decide +kernel, rfl⟩
theorem eL_law_720 : eb_at mL_law 720 723 (.goto 4) 3 := ⟨by decide +kernel, rfl⟩
theorem eL_law_723 : eb_at mL_law 723 724 (.iconst 0) 1 := ⟨by decide +kernel, rfl⟩
theorem eL_law_724 : eb_cv mL_law 724 727 mX9_see 2 := ⟨102, (RX9, TX9, 9), by decide +kernel, rfl, wd_659, wd_660, wd_661, by decide, rfl, rfl, okX9_see⟩
theorem eL_law_727 : eb_at mL_law 727 728 (.aload_n 2) 1 := ⟨by decide +kernel, rfl⟩
theorem eL_law_728 : eb_at mL_law 728 729 (.aload_n 0) 1 := ⟨by decide +kernel, rfl⟩
theorem eL_law_729 : eb_at mL_law 729 730 (.iload_n 3) 1 := ⟨by decide +kernel, rfl⟩
theorem eL_law_730 : eb_at mL_law 730 731 (.iconst 1) 1 := ⟨by decide +kernel, rfl⟩
theorem eL_law_731 : eb_at mL_law 731 732 (.iadd) 1 := ⟨by decide +kernel, rfl⟩
theorem eL_law_732 : eb_at mL_law 732 733 (.iaload) 1 := ⟨by decide +kernel, rfl⟩
theorem eL_law_733 : eb_at mL_law 733 734 (.aload_n 0) 1 := ⟨by decide +kernel, rfl⟩
theorem eL_law_734 : eb_at mL_law 734 735 (.iload_n 3) 1 := ⟨by decide +kernel, rfl⟩
theorem eL_law_735 : eb_at mL_law 735 736 (.iconst 2) 1 := ⟨by decide +kernel, rfl⟩
theorem eL_law_736 : eb_at mL_law 736 737 (.iadd) 1 := ⟨by decide +kernel, rfl⟩
theorem eL_law_737 : eb_at mL_law 737 738 (.iaload) 1 := ⟨by decide +kernel, rfl⟩
theorem eL_law_738 : eb_at mL_law 738 741 (.ifCond .eq 7) 3 := ⟨by decide +kernel, rfl⟩
theorem eL_law_741 : eb_at mL_law 741 742 (.iconst 1) 1 := ⟨by decide +kernel, rfl⟩
theorem eL_law_742 : eb_at mL_law 742 745 (.goto 4) 3 := ⟨by decide +kernel, rfl⟩
theorem eL_law_745 : eb_at mL_law 745 746 (.iconst 0) 1 := ⟨by decide +kernel, rfl⟩
theorem eL_law_746 : eb_cv mL_law 746 749 mX10_see 2 := ⟨106, (RX10, TX10, 29), by decide +kernel, rfl, wd_1010, wd_1011, wd_1012, by decide, rfl, rfl, okX10_see⟩
theorem eL_law_749 : eb_at mL_law 749 752 (.if_icmp .eq 120) 3 := ⟨by decide +kernel, rfl⟩
theorem eL_law_752 : eb_at mL_law 752 753 (.iconst 0) 1 := ⟨by decide +kernel, rfl⟩
theorem eL_law_753 : eb_at mL_law 753 754 (.ireturn) 1 := ⟨by decide +kernel, rfl⟩
theorem eL_law_754 : eb_at mL_law 754 755 (.aload_n 1) 1 := ⟨by decide +kernel, rfl⟩
theorem eL_law_755 : eb_at mL_law 755 756 (.aload_n 0) 1 := ⟨by decide +kernel, rfl⟩
theorem eL_law_756 : eb_at mL_law 756 757 (.iload_n 3) 1 := ⟨by decide +kernel, rfl⟩
theorem eL_law_757 : eb_at mL_law 757 758 (.iconst 1) 1 := ⟨by decide +kernel, rfl⟩
theorem eL_law_758 : eb_at mL_law 758 759 (.iadd) 1 := ⟨by decide +kernel, rfl⟩
theorem eL_law_759 : eb_at mL_law 759 760 (.iaload) 1 := ⟨by decide +kernel, rfl⟩
theorem eL_law_760 : eb_at mL_law 760 761 (.aload_n 0) 1 := ⟨by decide +kernel, rfl⟩
theorem eL_law_761 : eb_at mL_law 761 762 (.iload_n 3) 1 := ⟨by decide +kernel, rfl⟩
theorem eL_law_762 : eb_at mL_law 762 763 (.iconst 2) 1 := ⟨by decide +kernel, rfl⟩
theorem eL_law_763 : eb_at mL_law 763 764 (.iadd) 1 := ⟨by decide +kernel, rfl⟩
theorem eL_law_764 : eb_at mL_law 764 765 (.iaload) 1 := ⟨by decide +kernel, rfl⟩
theorem eL_law_765 : eb_cv mL_law 765 768 mX9_write 2 := ⟨107, (RX9, TX9, 9), by decide +kernel, rfl, wd_668, wd_669, wd_670, by decide, rfl, rfl, okX9_write⟩
theorem eL_law_768 : eb_at mL_law 768 769 (.aload_n 2) 1 := ⟨by decide +kernel, rfl⟩
theorem eL_law_769 : eb_at mL_law 769 770 (.aload_n 0) 1 := ⟨by decide +kernel, rfl⟩
theorem eL_law_770 : eb_at mL_law 770 771 (.iload_n 3) 1 := ⟨by decide +kernel, rfl⟩
theorem eL_law_771 : eb_at mL_law 771 772 (.iconst 1) 1 := ⟨by decide +kernel, rfl⟩
theorem eL_law_772 : eb_at mL_law 772 773 (.iadd) 1 := ⟨by decide +kernel, rfl⟩
theorem eL_law_773 : eb_at mL_law 773 774 (.iaload) 1 := ⟨by decide +kernel, rfl⟩
theorem eL_law_774 : eb_at mL_law 774 775 (.aload_n 0) 1 := ⟨by decide +kernel, rfl⟩
theorem eL_law_775 : eb_at mL_law 775 776 (.iload_n 3) 1 := ⟨by decide +kernel, rfl⟩
theorem eL_law_776 : eb_at mL_law 776 777 (.iconst 2) 1 := ⟨by decide +kernel, rfl⟩
theorem eL_law_777 : eb_at mL_law 777 778 (.iadd) 1 := ⟨by decide +kernel, rfl⟩
theorem eL_law_778 : eb_at mL_law 778 779 (.iaload) 1 := ⟨by decide +kernel, rfl⟩
theorem eL_law_779 : eb_cv mL_law 779 782 mX10_write 2 := ⟨110, (RX10, TX10, 29), by decide +kernel, rfl, wd_1014, wd_1015, wd_1016, by decide, rfl, rfl, okX10_write⟩
theorem eL_law_782 : eb_at mL_law 782 785 (.if_icmp .eq 87) 3 := ⟨by decide +kernel, rfl⟩
theorem eL_law_785 : eb_at mL_law 785 786 (.iconst 0) 1 := ⟨by decide +kernel, rfl⟩
theorem eL_law_786 : eb_at mL_law 786 787 (.ireturn) 1 := ⟨by decide +kernel, rfl⟩
theorem eL_law_787 : eb_at mL_law 787 788 (.aload_n 1) 1 := ⟨by decide +kernel, rfl⟩
theorem eL_law_788 : eb_cv mL_law 788 791 mX9_tear 0 := ⟨111, (RX9, TX9, 9), by decide +kernel, rfl, wd_677, wd_678, wd_679, by decide, rfl, rfl, okX9_tear⟩
theorem eL_law_791 : eb_at mL_law 791 792 (.aload_n 2) 1 := ⟨by decide +kernel, rfl⟩
theorem eL_law_792 : eb_cv mL_law 792 795 mX10_tear 0 := ⟨114, (RX10, TX10, 29), by decide +kernel, rfl, wd_1019, wd_1020, wd_1021, by decide, rfl, rfl, okX10_tear⟩
theorem eL_law_795 : eb_at mL_law 795 798 (.if_icmp .eq 74) 3 := ⟨by decide +kernel, rfl⟩
theorem eL_law_798 : eb_at mL_law 798 799 (.iconst 0) 1 := ⟨by decide +kernel, rfl⟩
theorem eL_law_799 : eb_at mL_law 799 800 (.ireturn) 1 := ⟨by decide +kernel, rfl⟩
theorem eL_law_800 : eb_at mL_law 800 801 (.aload_n 1) 1 := ⟨by decide +kernel, rfl⟩
theorem eL_law_801 : eb_at mL_law 801 802 (.aload_n 0) 1 := ⟨by decide +kernel, rfl⟩
theorem eL_law_802 : eb_at mL_law 802 803 (.iload_n 3) 1 := ⟨by decide +kernel, rfl⟩
theorem eL_law_803 : eb_at mL_law 803 804 (.iconst 1) 1 := ⟨by decide +kernel, rfl⟩
theorem eL_law_804 : eb_at mL_law 804 805 (.iadd) 1 := ⟨by decide +kernel, rfl⟩
theorem eL_law_805 : eb_at mL_law 805 806 (.iaload) 1 := ⟨by decide +kernel, rfl⟩
theorem eL_law_806 : eb_cv mL_law 806 809 mX9_seed 1 := ⟨115, (RX9, TX9, 9), by decide +kernel, rfl, wd_685, wd_686, wd_687, by decide, rfl, rfl, okX9_seed⟩
theorem eL_law_809 : eb_at mL_law 809 810 (.aload_n 2) 1 := ⟨by decide +kernel, rfl⟩
theorem eL_law_810 : eb_at mL_law 810 811 (.aload_n 0) 1 := ⟨by decide +kernel, rfl⟩
theorem eL_law_811 : eb_at mL_law 811 812 (.iload_n 3) 1 := ⟨by decide +kernel, rfl⟩
theorem eL_law_812 : eb_at mL_law 812 813 (.iconst 1) 1 := ⟨by decide +kernel, rfl⟩
theorem eL_law_813 : eb_at mL_law 813 814 (.iadd) 1 := ⟨by decide +kernel, rfl⟩
theorem eL_law_814 : eb_at mL_law 814 815 (.iaload) 1 := ⟨by decide +kernel, rfl⟩
theorem eL_law_815 : eb_cv mL_law 815 818 mX10_seed 1 := ⟨118, (RX10, TX10, 29), by decide +kernel, rfl, wd_1023, wd_1024, wd_1025, by decide, rfl, rfl, okX10_seed⟩
theorem eL_law_818 : eb_at mL_law 818 821 (.if_icmp .eq 51) 3 := ⟨by decide +kernel, rfl⟩
theorem eL_law_821 : eb_at mL_law 821 822 (.iconst 0) 1 := ⟨by decide +kernel, rfl⟩
theorem eL_law_822 : eb_at mL_law 822 823 (.ireturn) 1 := ⟨by decide +kernel, rfl⟩
theorem eL_law_823 : eb_at mL_law 823 824 (.aload_n 1) 1 := ⟨by decide +kernel, rfl⟩
theorem eL_law_824 : eb_at mL_law 824 825 (.aload_n 0) 1 := ⟨by decide +kernel, rfl⟩
theorem eL_law_825 : eb_at mL_law 825 826 (.iload_n 3) 1 := ⟨by decide +kernel, rfl⟩
theorem eL_law_826 : eb_at mL_law 826 827 (.iconst 1) 1 := ⟨by decide +kernel, rfl⟩
theorem eL_law_827 : eb_at mL_law 827 828 (.iadd) 1 := ⟨by decide +kernel, rfl⟩
theorem eL_law_828 : eb_at mL_law 828 829 (.iaload) 1 := ⟨by decide +kernel, rfl⟩
theorem eL_law_829 : eb_cv mL_law 829 832 mX9_keep 1 := ⟨119, (RX9, TX9, 9), by decide +kernel, rfl, wd_689, wd_690, wd_691, by decide, rfl, rfl, okX9_keep⟩
theorem eL_law_832 : eb_at mL_law 832 833 (.aload_n 2) 1 := ⟨by decide +kernel, rfl⟩
theorem eL_law_833 : eb_at mL_law 833 834 (.aload_n 0) 1 := ⟨by decide +kernel, rfl⟩
theorem eL_law_834 : eb_at mL_law 834 835 (.iload_n 3) 1 := ⟨by decide +kernel, rfl⟩
theorem eL_law_835 : eb_at mL_law 835 836 (.iconst 1) 1 := ⟨by decide +kernel, rfl⟩
theorem eL_law_836 : eb_at mL_law 836 837 (.iadd) 1 := ⟨by decide +kernel, rfl⟩
theorem eL_law_837 : eb_at mL_law 837 838 (.iaload) 1 := ⟨by decide +kernel, rfl⟩
theorem eL_law_838 : eb_cv mL_law 838 841 mX10_keep 1 := ⟨122, (RX10, TX10, 29), by decide +kernel, rfl, wd_1027, wd_1028, wd_1029, by decide, rfl, rfl, okX10_keep⟩
theorem eL_law_841 : eb_at mL_law 841 844 (.if_icmp .eq 28) 3 := ⟨by decide +kernel, rfl⟩
theorem eL_law_844 : eb_at mL_law 844 845 (.iconst 0) 1 := ⟨by decide +kernel, rfl⟩
theorem eL_law_845 : eb_at mL_law 845 846 (.ireturn) 1 := ⟨by decide +kernel, rfl⟩
theorem eL_law_846 : eb_at mL_law 846 847 (.aload_n 1) 1 := ⟨by decide +kernel, rfl⟩
theorem eL_law_847 : eb_at mL_law 847 848 (.aload_n 0) 1 := ⟨by decide +kernel, rfl⟩
theorem eL_law_848 : eb_at mL_law 848 849 (.iload_n 3) 1 := ⟨by decide +kernel, rfl⟩
theorem eL_law_849 : eb_at mL_law 849 850 (.iconst 1) 1 := ⟨by decide +kernel, rfl⟩
theorem eL_law_850 : eb_at mL_law 850 851 (.iadd) 1 := ⟨by decide +kernel, rfl⟩
theorem eL_law_851 : eb_at mL_law 851 852 (.iaload) 1 := ⟨by decide +kernel, rfl⟩
theorem eL_law_852 : eb_cv mL_law 852 855 mX9_goBack 1 := ⟨123, (RX9, TX9, 9), by decide +kernel, rfl, wd_694, wd_695, wd_696, by decide, rfl, rfl, okX9_goBack⟩
theorem eL_law_855 : eb_at mL_law 855 856 (.aload_n 2) 1 := ⟨by decide +kernel, rfl⟩
theorem eL_law_856 : eb_at mL_law 856 857 (.aload_n 0) 1 := ⟨by decide +kernel, rfl⟩
theorem eL_law_857 : eb_at mL_law 857 858 (.iload_n 3) 1 := ⟨by decide +kernel, rfl⟩
theorem eL_law_858 : eb_at mL_law 858 859 (.iconst 1) 1 := ⟨by decide +kernel, rfl⟩
theorem eL_law_859 : eb_at mL_law 859 860 (.iadd) 1 := ⟨by decide +kernel, rfl⟩
theorem eL_law_860 : eb_at mL_law 860 861 (.iaload) 1 := ⟨by decide +kernel, rfl⟩
theorem eL_law_861 : eb_cv mL_law 861 864 mX10_goBack 1 := ⟨126, (RX10, TX10, 29), by decide +kernel, rfl, wd_1031, wd_1032, wd_1033, by decide, rfl, rfl, okX10_goBack⟩
theorem eL_law_864 : eb_at mL_law 864 867 (.if_icmp .eq 5) 3 := ⟨by decide +kernel, rfl⟩
theorem eL_law_867 : eb_at mL_law 867 868 (.iconst 0) 1 := ⟨by decide +kernel, rfl⟩
theorem eL_law_868 : eb_at mL_law 868 869 (.ireturn) 1 := ⟨by decide +kernel, rfl⟩
theorem eL_law_869 : eb_at mL_law 869 872 (.iinc 3 4) 3 := ⟨by decide +kernel, rfl⟩
theorem eL_law_872 : eb_at mL_law 872 875 (.goto (-854)) 3 := ⟨by decide +kernel, rfl⟩
theorem eL_law_875 : eb_at mL_law 875 876 (.iconst 1) 1 := ⟨by decide +kernel, rfl⟩
theorem eL_law_876 : eb_at mL_law 876 877 (.ireturn) 1 := ⟨by decide +kernel, rfl⟩
end
section
theorem eX0_add_0 : eb_at mX0_add 0 1 (.aload_n 0) 1 := ⟨by decide +kernel, rfl⟩
theorem eX0_add_1 : eb_gf mX0_add 1 4 0 2 := ⟨18, (RX0, TX0, 3), by decide +kernel, rfl, rfl, by decide, wd_179⟩
theorem eX0_add_4 : eb_at mX0_add 4 6 (.bipush 20) 2 := ⟨by decide +kernel, rfl⟩
theorem eX0_add_6 : eb_at mX0_add 6 9 (.if_icmp .lt 6) 3 := ⟨by decide +kernel, rfl⟩
theorem eX0_add_9 : eb_at mX0_add 9 11 (.ldc 22) 2 := ⟨by decide +kernel, rfl⟩
theorem eX0_add_11 : eb_at mX0_add 11 12 (.ireturn) 1 := ⟨by decide +kernel, rfl⟩
theorem eX0_add_12 : eb_at mX0_add 12 13 (.aload_n 0) 1 := ⟨by decide +kernel, rfl⟩
theorem eX0_add_13 : eb_gf mX0_add 13 16 0 0 := ⟨9, (RX0, TX0, 3), by decide +kernel, rfl, rfl, by decide, wd_177⟩
theorem eX0_add_16 : eb_at mX0_add 16 17 (.aload_n 0) 1 := ⟨by decide +kernel, rfl⟩
theorem eX0_add_17 : eb_gf mX0_add 17 20 0 2 := ⟨18, (RX0, TX0, 3), by decide +kernel, rfl, rfl, by decide, wd_179⟩
theorem eX0_add_20 : eb_at mX0_add 20 21 (.iload_n 1) 1 := ⟨by decide +kernel, rfl⟩
theorem eX0_add_21 : eb_at mX0_add 21 22 (.iastore) 1 := ⟨by decide +kernel, rfl⟩
theorem eX0_add_22 : eb_at mX0_add 22 23 (.aload_n 0) 1 := ⟨by decide +kernel, rfl⟩
theorem eX0_add_23 : eb_gf mX0_add 23 26 0 1 := ⟨15, (RX0, TX0, 3), by decide +kernel, rfl, rfl, by decide, wd_178⟩
theorem eX0_add_26 : eb_at mX0_add 26 27 (.aload_n 0) 1 := ⟨by decide +kernel, rfl⟩
theorem eX0_add_27 : eb_gf mX0_add 27 30 0 2 := ⟨18, (RX0, TX0, 3), by decide +kernel, rfl, rfl, by decide, wd_179⟩
theorem eX0_add_30 : eb_at mX0_add 30 31 (.iload_n 2) 1 := ⟨by decide +kernel, rfl⟩
theorem eX0_add_31 : eb_at mX0_add 31 32 (.iastore) 1 := ⟨by decide +kernel, rfl⟩
theorem eX0_add_32 : eb_at mX0_add 32 33 (.aload_n 0) 1 := ⟨by decide +kernel, rfl⟩
theorem eX0_add_33 : eb_at mX0_add 33 34 (.dup) 1 := ⟨by decide +kernel, rfl⟩
theorem eX0_add_34 : eb_gf mX0_add 34 37 0 2 := ⟨18, (RX0, TX0, 3), by decide +kernel, rfl, rfl, by decide, wd_179⟩
theorem eX0_add_37 : eb_at mX0_add 37 38 (.iconst 1) 1 := ⟨by decide +kernel, rfl⟩
theorem eX0_add_38 : eb_at mX0_add 38 39 (.iadd) 1 := ⟨by decide +kernel, rfl⟩
theorem eX0_add_39 : eb_pf mX0_add 39 42 0 2 false .int := ⟨18, (RX0, TX0, 3), by decide +kernel, rfl, rfl, by decide, wd_179, rfl, by decide +kernel, fun h => absurd h (by decide)⟩
theorem eX0_add_42 : eb_at mX0_add 42 43 (.aload_n 0) 1 := ⟨by decide +kernel, rfl⟩
theorem eX0_add_43 : eb_gf mX0_add 43 46 0 2 := ⟨18, (RX0, TX0, 3), by decide +kernel, rfl, rfl, by decide, wd_179⟩
theorem eX0_add_46 : eb_at mX0_add 46 47 (.ireturn) 1 := ⟨by decide +kernel, rfl⟩
theorem eX0_firstWrong_0 : eb_at mX0_firstWrong 0 1 (.iconst 0) 1 := ⟨by decide +kernel, rfl⟩
theorem eX0_firstWrong_1 : eb_at mX0_firstWrong 1 2 (.istore_n 2) 1 := ⟨by decide +kernel, rfl⟩
theorem eX0_firstWrong_2 : eb_at mX0_firstWrong 2 3 (.iload_n 2) 1 := ⟨by decide +kernel, rfl⟩
theorem eX0_firstWrong_3 : eb_at mX0_firstWrong 3 4 (.aload_n 0) 1 := ⟨by decide +kernel, rfl⟩
theorem eX0_firstWrong_4 : eb_gf mX0_firstWrong 4 7 0 2 := ⟨18, (RX0, TX0, 3), by decide +kernel, rfl, rfl, by decide, wd_179⟩
theorem eX0_firstWrong_7 : eb_at mX0_firstWrong 7 10 (.if_icmp .ge 30) 3 := ⟨by decide +kernel, rfl⟩
theorem eX0_firstWrong_10 : eb_at mX0_firstWrong 10 11 (.aload_n 1) 1 := ⟨by decide +kernel, rfl⟩
theorem eX0_firstWrong_11 : eb_at mX0_firstWrong 11 12 (.aload_n 0) 1 := ⟨by decide +kernel, rfl⟩
theorem eX0_firstWrong_12 : eb_gf mX0_firstWrong 12 15 0 0 := ⟨9, (RX0, TX0, 3), by decide +kernel, rfl, rfl, by decide, wd_177⟩
theorem eX0_firstWrong_15 : eb_at mX0_firstWrong 15 16 (.iload_n 2) 1 := ⟨by decide +kernel, rfl⟩
theorem eX0_firstWrong_16 : eb_at mX0_firstWrong 16 17 (.iaload) 1 := ⟨by decide +kernel, rfl⟩
theorem eX0_firstWrong_17 : eb_cv mX0_firstWrong 17 20 mX3_beginOf 1 := ⟨23, (RX3, TX3, 13), by decide +kernel, rfl, wd_502, wd_449, wd_450, by decide, rfl, rfl, okX3_beginOf⟩
theorem eX0_firstWrong_20 : eb_at mX0_firstWrong 20 21 (.aload_n 0) 1 := ⟨by decide +kernel, rfl⟩
theorem eX0_firstWrong_21 : eb_gf mX0_firstWrong 21 24 0 1 := ⟨15, (RX0, TX0, 3), by decide +kernel, rfl, rfl, by decide, wd_178⟩
theorem eX0_firstWrong_24 : eb_at mX0_firstWrong 24 25 (.iload_n 2) 1 := ⟨by decide +kernel, rfl⟩
theorem eX0_firstWrong_25 : eb_at mX0_firstWrong 25 26 (.iaload) 1 := ⟨by decide +kernel, rfl⟩
theorem eX0_firstWrong_26 : eb_at mX0_firstWrong 26 29 (.if_icmp .eq 5) 3 := ⟨by decide +kernel, rfl⟩
theorem eX0_firstWrong_29 : eb_at mX0_firstWrong 29 30 (.iload_n 2) 1 := ⟨by decide +kernel, rfl⟩
theorem eX0_firstWrong_30 : eb_at mX0_firstWrong 30 31 (.ireturn) 1 := ⟨by decide +kernel, rfl⟩
theorem eX0_firstWrong_31 : eb_at mX0_firstWrong 31 34 (.iinc 2 1) 3 := ⟨by decide +kernel, rfl⟩
theorem eX0_firstWrong_34 : eb_at mX0_firstWrong 34 37 (.goto (-32)) 3 := ⟨by decide +kernel, rfl⟩
theorem eX0_firstWrong_37 : eb_at mX0_firstWrong 37 38 (.iconst (-1)) 1 := ⟨by decide +kernel, rfl⟩
theorem eX0_firstWrong_38 : eb_at mX0_firstWrong 38 39 (.ireturn) 1 := ⟨by decide +kernel, rfl⟩
theorem eX0_init_0 : eb_at mX0_init 0 1 (.aload_n 0) 1 := ⟨by decide +kernel, rfl⟩
theorem eX0_init_1 : eb_at mX0_init 1 4 (.invokespecial 3) 3 := ⟨by decide +kernel, rfl⟩
theorem eX0_init_4 : eb_at mX0_init 4 5 (.aload_n 0) 1 := ⟨by decide +kernel, rfl⟩
theorem eX0_init_5 : eb_at mX0_init 5 7 (.bipush 20) 2 := ⟨by decide +kernel, rfl⟩
theorem eX0_init_7 : eb_at mX0_init 7 9 (.newarray .int) 2 := ⟨by decide +kernel, rfl⟩
theorem eX0_init_9 : eb_pf mX0_init 9 12 0 0 true (.array .int) := ⟨9, (RX0, TX0, 3), by decide +kernel, rfl, rfl, by decide, wd_177, rfl, by decide +kernel, fun _ => ⟨rfl, rfl⟩⟩
theorem eX0_init_12 : eb_at mX0_init 12 13 (.aload_n 0) 1 := ⟨by decide +kernel, rfl⟩
theorem eX0_init_13 : eb_at mX0_init 13 15 (.bipush 20) 2 := ⟨by decide +kernel, rfl⟩
theorem eX0_init_15 : eb_at mX0_init 15 17 (.newarray .int) 2 := ⟨by decide +kernel, rfl⟩
theorem eX0_init_17 : eb_pf mX0_init 17 20 0 1 true (.array .int) := ⟨15, (RX0, TX0, 3), by decide +kernel, rfl, rfl, by decide, wd_178, rfl, by decide +kernel, fun _ => ⟨rfl, rfl⟩⟩
theorem eX0_init_20 : eb_at mX0_init 20 21 (.aload_n 0) 1 := ⟨by decide +kernel, rfl⟩
theorem eX0_init_21 : eb_at mX0_init 21 22 (.iconst 0) 1 := ⟨by decide +kernel, rfl⟩
theorem eX0_init_22 : eb_pf mX0_init 22 25 0 2 false .int := ⟨18, (RX0, TX0, 3), by decide +kernel, rfl, rfl, by decide, wd_179, rfl, by decide +kernel, fun h => absurd h (by decide)⟩
theorem eX0_init_25 : eb_at mX0_init 25 26 (.return_) 1 := ⟨by decide +kernel, rfl⟩
end
section
theorem eX1_draw_0 : eb_at mX1_draw 0 1 (.aload_n 0) 1 := ⟨by decide +kernel, rfl⟩
theorem eX1_draw_1 : eb_at mX1_draw 1 2 (.aload_n 0) 1 := ⟨by decide +kernel, rfl⟩
theorem eX1_draw_2 : eb_gf mX1_draw 2 5 1 0 := ⟨9, (RX1, TX1, 1), by decide +kernel, rfl, rfl, by decide, wd_164⟩
theorem eX1_draw_5 : eb_at mX1_draw 5 6 (.i2l) 1 := ⟨by decide +kernel, rfl⟩
theorem eX1_draw_6 : eb_at mX1_draw 6 9 (.ldc2_w 15) 3 := ⟨by decide +kernel, rfl⟩
theorem eX1_draw_9 : eb_at mX1_draw 9 10 (.lmul) 1 := ⟨by decide +kernel, rfl⟩
theorem eX1_draw_10 : eb_at mX1_draw 10 13 (.ldc2_w 17) 3 := ⟨by decide +kernel, rfl⟩
theorem eX1_draw_13 : eb_at mX1_draw 13 14 (.ladd) 1 := ⟨by decide +kernel, rfl⟩
theorem eX1_draw_14 : eb_at mX1_draw 14 17 (.ldc2_w 19) 3 := ⟨by decide +kernel, rfl⟩
theorem eX1_draw_17 : eb_at mX1_draw 17 18 (.lrem) 1 := ⟨by decide +kernel, rfl⟩
theorem eX1_draw_18 : eb_at mX1_draw 18 19 (.l2i) 1 := ⟨by decide +kernel, rfl⟩
theorem eX1_draw_19 : eb_pf mX1_draw 19 22 1 0 false .int := ⟨9, (RX1, TX1, 1), by decide +kernel, rfl, rfl, by decide, wd_164, rfl, by decide +kernel, fun h => absurd h (by decide)⟩
theorem eX1_draw_22 : eb_at mX1_draw 22 23 (.iload_n 1) 1 := ⟨by decide +kernel, rfl⟩
theorem eX1_draw_23 : eb_at mX1_draw 23 26 (.ifCond .le 15) 3 := ⟨by decide +kernel, rfl⟩
theorem eX1_draw_26 : eb_at mX1_draw 26 27 (.aload_n 0) 1 := ⟨by decide +kernel, rfl⟩
theorem eX1_draw_27 : eb_gf mX1_draw 27 30 1 0 := ⟨9, (RX1, TX1, 1), by decide +kernel, rfl, rfl, by decide, wd_164⟩
theorem eX1_draw_30 : eb_at mX1_draw 30 32 (.ldc 21) 2 := ⟨by decide +kernel, rfl⟩
theorem eX1_draw_32 : eb_at mX1_draw 32 33 (.idiv) 1 := ⟨by decide +kernel, rfl⟩
theorem eX1_draw_33 : eb_at mX1_draw 33 34 (.iload_n 1) 1 := ⟨by decide +kernel, rfl⟩
theorem eX1_draw_34 : eb_at mX1_draw 34 35 (.irem) 1 := ⟨by decide +kernel, rfl⟩
theorem eX1_draw_35 : eb_at mX1_draw 35 38 (.goto 4) 3 := ⟨by decide +kernel, rfl⟩
theorem eX1_draw_38 : eb_at mX1_draw 38 39 (.iconst 0) 1 := ⟨by decide +kernel, rfl⟩
theorem eX1_draw_39 : eb_at mX1_draw 39 40 (.ireturn) 1 := ⟨by decide +kernel, rfl⟩
theorem eX1_drawWord_0 : eb_at mX1_drawWord 0 1 (.aload_n 0) 1 := ⟨by decide +kernel, rfl⟩
theorem eX1_drawWord_1 : eb_at mX1_drawWord 1 3 (.bipush 12) 2 := ⟨by decide +kernel, rfl⟩
theorem eX1_drawWord_3 : eb_cv mX1_drawWord 3 6 mX1_draw 1 := ⟨22, (RX1, TX1, 1), by decide +kernel, rfl, wd_607, wd_608, wd_609, by decide, rfl, rfl, okX1_draw⟩
theorem eX1_drawWord_6 : eb_at mX1_drawWord 6 7 (.iconst 1) 1 := ⟨by decide +kernel, rfl⟩
theorem eX1_drawWord_7 : eb_at mX1_drawWord 7 8 (.iadd) 1 := ⟨by decide +kernel, rfl⟩
theorem eX1_drawWord_8 : eb_at mX1_drawWord 8 9 (.istore_n 1) 1 := ⟨by decide +kernel, rfl⟩
theorem eX1_drawWord_9 : eb_at mX1_drawWord 9 10 (.lconst 0) 1 := ⟨by decide +kernel, rfl⟩
theorem eX1_drawWord_10 : eb_at mX1_drawWord 10 11 (.lstore_n 2) 1 := ⟨by decide +kernel, rfl⟩
theorem eX1_drawWord_11 : eb_at mX1_drawWord 11 12 (.iconst 0) 1 := ⟨by decide +kernel, rfl⟩
theorem eX1_drawWord_12 : eb_at mX1_drawWord 12 14 (.istore 4) 2 := ⟨by decide +kernel, rfl⟩
theorem eX1_drawWord_14 : eb_at mX1_drawWord 14 16 (.iload 4) 2 := ⟨by decide +kernel, rfl⟩
theorem eX1_drawWord_16 : eb_at mX1_drawWord 16 17 (.iload_n 1) 1 := ⟨by decide +kernel, rfl⟩
theorem eX1_drawWord_17 : eb_at mX1_drawWord 17 20 (.if_icmp .ge 25) 3 := ⟨by decide +kernel, rfl⟩
theorem eX1_drawWord_20 : eb_at mX1_drawWord 20 21 (.lload_n 2) 1 := ⟨by decide +kernel, rfl⟩
theorem eX1_drawWord_21 : eb_at mX1_drawWord 21 23 (.iload 4) 2 := ⟨by decide +kernel, rfl⟩
theorem eX1_drawWord_23 : eb_at mX1_drawWord 23 25 (.bipush 97) 2 := ⟨by decide +kernel, rfl⟩
theorem eX1_drawWord_25 : eb_at mX1_drawWord 25 26 (.aload_n 0) 1 := ⟨by decide +kernel, rfl⟩
theorem eX1_drawWord_26 : eb_at mX1_drawWord 26 28 (.bipush 26) 2 := ⟨by decide +kernel, rfl⟩
theorem eX1_drawWord_28 : eb_cv mX1_drawWord 28 31 mX1_draw 1 := ⟨22, (RX1, TX1, 1), by decide +kernel, rfl, wd_607, wd_608, wd_609, by decide, rfl, rfl, okX1_draw⟩
theorem eX1_drawWord_31 : eb_at mX1_drawWord 31 32 (.iadd) 1 := ⟨by decide +kernel, rfl⟩
theorem eX1_drawWord_32 : eb_cs mX1_drawWord 32 35 mX5_withLetter 3 := ⟨26, by decide +kernel, rfl, wd_615, wd_399, by decide, okX5_withLetter⟩
theorem eX1_drawWord_35 : eb_at mX1_drawWord 35 36 (.lstore_n 2) 1 := ⟨by decide +kernel, rfl⟩
theorem eX1_drawWord_36 : eb_at mX1_drawWord 36 39 (.iinc 4 1) 3 := ⟨by decide +kernel, rfl⟩
theorem eX1_drawWord_39 : eb_at mX1_drawWord 39 42 (.goto (-25)) 3 := ⟨by decide +kernel, rfl⟩
theorem eX1_drawWord_42 : eb_at mX1_drawWord 42 43 (.lload_n 2) 1 := ⟨by decide +kernel, rfl⟩
theorem eX1_drawWord_43 : eb_at mX1_drawWord 43 44 (.lreturn) 1 := ⟨by decide +kernel, rfl⟩
theorem eX1_init_0 : eb_at mX1_init 0 1 (.aload_n 0) 1 := ⟨by decide +kernel, rfl⟩
theorem eX1_init_1 : eb_at mX1_init 1 4 (.invokespecial 3) 3 := ⟨by decide +kernel, rfl⟩
theorem eX1_init_4 : eb_at mX1_init 4 5 (.aload_n 0) 1 := ⟨by decide +kernel, rfl⟩
theorem eX1_init_5 : eb_at mX1_init 5 6 (.iconst 0) 1 := ⟨by decide +kernel, rfl⟩
theorem eX1_init_6 : eb_pf mX1_init 6 9 1 0 false .int := ⟨9, (RX1, TX1, 1), by decide +kernel, rfl, rfl, by decide, wd_164, rfl, by decide +kernel, fun h => absurd h (by decide)⟩
theorem eX1_init_9 : eb_at mX1_init 9 10 (.return_) 1 := ⟨by decide +kernel, rfl⟩
end
section
theorem eX10_becomes_0 : eb_at mX10_becomes 0 1 (.iload_n 2) 1 := ⟨by decide +kernel, rfl⟩
theorem eX10_becomes_1 : eb_at mX10_becomes 1 2 (.i2l) 1 := ⟨by decide +kernel, rfl⟩
theorem eX10_becomes_2 : eb_at mX10_becomes 2 3 (.iload_n 3) 1 := ⟨by decide +kernel, rfl⟩
theorem eX10_becomes_3 : eb_at mX10_becomes 3 4 (.i2l) 1 := ⟨by decide +kernel, rfl⟩
theorem eX10_becomes_4 : eb_at mX10_becomes 4 6 (.iload 4) 2 := ⟨by decide +kernel, rfl⟩
theorem eX10_becomes_6 : eb_at mX10_becomes 6 7 (.i2l) 1 := ⟨by decide +kernel, rfl⟩
theorem eX10_becomes_7 : eb_cs mX10_becomes 7 10 mX10_in 3 := ⟨70, by decide +kernel, rfl, wd_798, wd_799, by decide, okX10_in⟩
theorem eX10_becomes_10 : eb_at mX10_becomes 10 13 (.ifCond .ne 6) 3 := ⟨by decide +kernel, rfl⟩
theorem eX10_becomes_13 : eb_at mX10_becomes 13 15 (.ldc 76) 2 := ⟨by decide +kernel, rfl⟩
theorem eX10_becomes_15 : eb_at mX10_becomes 15 16 (.ireturn) 1 := ⟨by decide +kernel, rfl⟩
theorem eX10_becomes_16 : eb_at mX10_becomes 16 17 (.aload_n 0) 1 := ⟨by decide +kernel, rfl⟩
theorem eX10_becomes_17 : eb_cv mX10_becomes 17 20 mX10_note 0 := ⟨99, (RX10, TX10, 29), by decide +kernel, rfl, wd_817, wd_819, wd_20, by decide, rfl, rfl, okX10_note⟩
theorem eX10_becomes_20 : eb_at mX10_becomes 20 21 (.aload_n 0) 1 := ⟨by decide +kernel, rfl⟩
theorem eX10_becomes_21 : eb_gf mX10_becomes 21 24 9 0 := ⟨7, (RX10, TX10, 29), by decide +kernel, rfl, rfl, by decide, wd_704⟩
theorem eX10_becomes_24 : eb_at mX10_becomes 24 25 (.iload_n 1) 1 := ⟨by decide +kernel, rfl⟩
theorem eX10_becomes_25 : eb_at mX10_becomes 25 26 (.iload_n 2) 1 := ⟨by decide +kernel, rfl⟩
theorem eX10_becomes_26 : eb_at mX10_becomes 26 27 (.iastore) 1 := ⟨by decide +kernel, rfl⟩
theorem eX10_becomes_27 : eb_at mX10_becomes 27 28 (.aload_n 0) 1 := ⟨by decide +kernel, rfl⟩
theorem eX10_becomes_28 : eb_cv mX10_becomes 28 31 mX10_total 0 := ⟨187, (RX10, TX10, 29), by decide +kernel, rfl, wd_955, wd_957, wd_42, by decide, rfl, rfl, okX10_total⟩
theorem eX10_becomes_31 : eb_at mX10_becomes 31 32 (.ireturn) 1 := ⟨by decide +kernel, rfl⟩
theorem eX10_beginSet_0 : eb_at mX10_beginSet 0 1 (.lconst 0) 1 := ⟨by decide +kernel, rfl⟩
theorem eX10_beginSet_1 : eb_at mX10_beginSet 1 2 (.lstore_n 1) 1 := ⟨by decide +kernel, rfl⟩
theorem eX10_beginSet_2 : eb_at mX10_beginSet 2 3 (.iconst 0) 1 := ⟨by decide +kernel, rfl⟩
theorem eX10_beginSet_3 : eb_at mX10_beginSet 3 4 (.istore_n 3) 1 := ⟨by decide +kernel, rfl⟩
theorem eX10_beginSet_4 : eb_at mX10_beginSet 4 5 (.iload_n 3) 1 := ⟨by decide +kernel, rfl⟩
theorem eX10_beginSet_5 : eb_at mX10_beginSet 5 6 (.aload_n 0) 1 := ⟨by decide +kernel, rfl⟩
theorem eX10_beginSet_6 : eb_gf mX10_beginSet 6 9 9 16 := ⟨140, (RX10, TX10, 29), by decide +kernel, rfl, rfl, by decide, wd_720⟩
theorem eX10_beginSet_9 : eb_at mX10_beginSet 9 12 (.if_icmp .ge 20) 3 := ⟨by decide +kernel, rfl⟩
theorem eX10_beginSet_12 : eb_at mX10_beginSet 12 13 (.lload_n 1) 1 := ⟨by decide +kernel, rfl⟩
theorem eX10_beginSet_13 : eb_at mX10_beginSet 13 14 (.lconst 1) 1 := ⟨by decide +kernel, rfl⟩
theorem eX10_beginSet_14 : eb_at mX10_beginSet 14 15 (.aload_n 0) 1 := ⟨by decide +kernel, rfl⟩
theorem eX10_beginSet_15 : eb_gf mX10_beginSet 15 18 9 15 := ⟨40, (RX10, TX10, 29), by decide +kernel, rfl, rfl, by decide, wd_719⟩
theorem eX10_beginSet_18 : eb_at mX10_beginSet 18 19 (.iload_n 3) 1 := ⟨by decide +kernel, rfl⟩
theorem eX10_beginSet_19 : eb_at mX10_beginSet 19 20 (.iaload) 1 := ⟨by decide +kernel, rfl⟩
theorem eX10_beginSet_20 : eb_at mX10_beginSet 20 21 (.lshl) 1 := ⟨by decide +kernel, rfl⟩
theorem eX10_beginSet_21 : eb_at mX10_beginSet 21 22 (.lor) 1 := ⟨by decide +kernel, rfl⟩
theorem eX10_beginSet_22 : eb_at mX10_beginSet 22 23 (.lstore_n 1) 1 := ⟨by decide +kernel, rfl⟩
theorem eX10_beginSet_23 : eb_at mX10_beginSet 23 26 (.iinc 3 1) 3 := ⟨by decide +kernel, rfl⟩
theorem eX10_beginSet_26 : eb_at mX10_beginSet 26 29 (.goto (-22)) 3 := ⟨by decide +kernel, rfl⟩
theorem eX10_beginSet_29 : eb_at mX10_beginSet 29 30 (.lload_n 1) 1 := ⟨by decide +kernel, rfl⟩
theorem eX10_beginSet_30 : eb_at mX10_beginSet 30 31 (.lreturn) 1 := ⟨by decide +kernel, rfl⟩
theorem eX10_best_0 : eb_at mX10_best 0 1 (.iload_n 1) 1 := ⟨by decide +kernel, rfl⟩
theorem eX10_best_1 : eb_at mX10_best 1 2 (.i2l) 1 := ⟨by decide +kernel, rfl⟩
theorem eX10_best_2 : eb_at mX10_best 2 3 (.lconst 1) 1 := ⟨by decide +kernel, rfl⟩
theorem eX10_best_3 : eb_at mX10_best 3 6 (.ldc2_w 214) 3 := ⟨by decide +kernel, rfl⟩
theorem eX10_best_6 : eb_cs mX10_best 6 9 mX10_in 3 := ⟨70, by decide +kernel, rfl, wd_798, wd_799, by decide, okX10_in⟩
theorem eX10_best_9 : eb_at mX10_best 9 12 (.ifCond .eq 30) 3 := ⟨by decide +kernel, rfl⟩
theorem eX10_best_12 : eb_at mX10_best 12 13 (.iload_n 2) 1 := ⟨by decide +kernel, rfl⟩
theorem eX10_best_13 : eb_at mX10_best 13 14 (.i2l) 1 := ⟨by decide +kernel, rfl⟩
theorem eX10_best_14 : eb_at mX10_best 14 15 (.lconst 1) 1 := ⟨by decide +kernel, rfl⟩
theorem eX10_best_15 : eb_at mX10_best 15 18 (.ldc2_w 214) 3 := ⟨by decide +kernel, rfl⟩
theorem eX10_best_18 : eb_cs mX10_best 18 21 mX10_in 3 := ⟨70, by decide +kernel, rfl, wd_798, wd_799, by decide, okX10_in⟩
theorem eX10_best_21 : eb_at mX10_best 21 24 (.ifCond .eq 18) 3 := ⟨by decide +kernel, rfl⟩
theorem eX10_best_24 : eb_at mX10_best 24 25 (.iload_n 1) 1 := ⟨by decide +kernel, rfl⟩
theorem eX10_best_25 : eb_at mX10_best 25 26 (.iload_n 2) 1 := ⟨by decide +kernel, rfl⟩
theorem eX10_best_26 : eb_at mX10_best 26 29 (.if_icmp .gt 13) 3 := ⟨by decide +kernel, rfl⟩
theorem eX10_best_29 : eb_at mX10_best 29 30 (.iload_n 3) 1 := ⟨by decide +kernel, rfl⟩
theorem eX10_best_30 : eb_at mX10_best 30 31 (.i2l) 1 := ⟨by decide +kernel, rfl⟩
theorem eX10_best_31 : eb_at mX10_best 31 32 (.lconst 0) 1 := ⟨by decide +kernel, rfl⟩
theorem eX10_best_32 : eb_at mX10_best 32 33 (.lconst 1) 1 := ⟨by decide +kernel, rfl⟩
theorem eX10_best_33 : eb_cs mX10_best 33 36 mX10_in 3 := ⟨70, by decide +kernel, rfl, wd_798, wd_799, by decide, okX10_in⟩
theorem eX10_best_36 : eb_at mX10_best 36 39 (.ifCond .ne 6) 3 := ⟨by decide +kernel, rfl⟩
theorem eX10_best_39 : eb_at mX10_best 39 41 (.ldc 76) 2 := ⟨by decide +kernel, rfl⟩
theorem eX10_best_41 : eb_at mX10_best 41 42 (.ireturn) 1 := ⟨by decide +kernel, rfl⟩
theorem eX10_best_42 : eb_at mX10_best 42 43 (.aload_n 0) 1 := ⟨by decide +kernel, rfl⟩
theorem eX10_best_43 : eb_cv mX10_best 43 46 mX10_measureWords 0 := ⟨131, (RX10, TX10, 29), by decide +kernel, rfl, wd_862, wd_864, wd_28, by decide, rfl, rfl, okX10_measureWords⟩
theorem eX10_best_46 : eb_at mX10_best 46 47 (.iconst (-1)) 1 := ⟨by decide +kernel, rfl⟩
theorem eX10_best_47 : eb_at mX10_best 47 49 (.istore 4) 2 := ⟨by decide +kernel, rfl⟩
theorem eX10_best_49 : eb_at mX10_best 49 51 (.ldc 126) 2 := ⟨by decide +kernel, rfl⟩
theorem eX10_best_51 : eb_at mX10_best 51 53 (.istore 5) 2 := ⟨by decide +kernel, rfl⟩
theorem eX10_best_53 : eb_at mX10_best 53 54 (.iload_n 1) 1 := ⟨by decide +kernel, rfl⟩
theorem eX10_best_54 : eb_at mX10_best 54 56 (.istore 6) 2 := ⟨by decide +kernel, rfl⟩
theorem eX10_best_56 : eb_at mX10_best 56 58 (.iload 6) 2 := ⟨by decide +kernel, rfl⟩
theorem eX10_best_58 : eb_at mX10_best 58 59 (.iload_n 2) 1 := ⟨by decide +kernel, rfl⟩
theorem eX10_best_59 : eb_at mX10_best 59 62 (.if_icmp .gt 60) 3 := ⟨by decide +kernel, rfl⟩
theorem eX10_best_62 : eb_at mX10_best 62 63 (.aload_n 0) 1 := ⟨by decide +kernel, rfl⟩
theorem eX10_best_63 : eb_at mX10_best 63 65 (.iload 6) 2 := ⟨by decide +kernel, rfl⟩
theorem eX10_best_65 : eb_cv mX10_best 65 68 mX10_layBy 1 := ⟨134, (RX10, TX10, 29), by decide +kernel, rfl, wd_866, wd_868, wd_29, by decide, rfl, rfl, okX10_layBy⟩
theorem eX10_best_68 : eb_at mX10_best 68 69 (.aload_n 0) 1 := ⟨by decide +kernel, rfl⟩
theorem eX10_best_69 : eb_gf mX10_best 69 72 9 13 := ⟨34, (RX10, TX10, 29), by decide +kernel, rfl, rfl, by decide, wd_717⟩
theorem eX10_best_72 : eb_at mX10_best 72 73 (.aload_n 0) 1 := ⟨by decide +kernel, rfl⟩
theorem eX10_best_73 : eb_gf mX10_best 73 76 9 0 := ⟨7, (RX10, TX10, 29), by decide +kernel, rfl, rfl, by decide, wd_704⟩
theorem eX10_best_76 : eb_at mX10_best 76 77 (.iconst 0) 1 := ⟨by decide +kernel, rfl⟩
theorem eX10_best_77 : eb_at mX10_best 77 78 (.iaload) 1 := ⟨by decide +kernel, rfl⟩
theorem eX10_best_78 : eb_at mX10_best 78 79 (.iaload) 1 := ⟨by decide +kernel, rfl⟩
theorem eX10_best_79 : eb_at mX10_best 79 81 (.istore 7) 2 := ⟨by decide +kernel, rfl⟩
theorem eX10_best_81 : eb_at mX10_best 81 83 (.iload 7) 2 := ⟨by decide +kernel, rfl⟩
theorem eX10_best_83 : eb_at mX10_best 83 85 (.iload 5) 2 := ⟨by decide +kernel, rfl⟩
theorem eX10_best_85 : eb_at mX10_best 85 88 (.if_icmp .ge 8) 3 := ⟨by decide +kernel, rfl⟩
theorem eX10_best_88 : eb_at mX10_best 88 90 (.iload 6) 2 := ⟨by decide +kernel, rfl⟩
theorem eX10_best_90 : eb_at mX10_best 90 93 (.goto 5) 3 := ⟨by decide +kernel, rfl⟩
theorem eX10_best_93 : eb_at mX10_best 93 95 (.iload 4) 2 := ⟨by decide +kernel, rfl⟩
theorem eX10_best_95 : eb_at mX10_best 95 97 (.istore 4) 2 := ⟨by decide +kernel, rfl⟩
theorem eX10_best_97 : eb_at mX10_best 97 99 (.iload 7) 2 := ⟨by decide +kernel, rfl⟩
theorem eX10_best_99 : eb_at mX10_best 99 101 (.iload 5) 2 := ⟨by decide +kernel, rfl⟩
theorem eX10_best_101 : eb_at mX10_best 101 104 (.if_icmp .ge 8) 3 := ⟨by decide +kernel, rfl⟩
theorem eX10_best_104 : eb_at mX10_best 104 106 (.iload 7) 2 := ⟨by decide +kernel, rfl⟩
theorem eX10_best_106 : eb_at mX10_best 106 109 (.goto 5) 3 := ⟨by decide +kernel, rfl⟩
theorem eX10_best_109 : eb_at mX10_best 109 111 (.iload 5) 2 := ⟨by decide +kernel, rfl⟩
theorem eX10_best_111 : eb_at mX10_best 111 113 (.istore 5) 2 := ⟨by decide +kernel, rfl⟩
theorem eX10_best_113 : eb_at mX10_best 113 116 (.iinc 6 1) 3 := ⟨by decide +kernel, rfl⟩
theorem eX10_best_116 : eb_at mX10_best 116 119 (.goto (-60)) 3 := ⟨by decide +kernel, rfl⟩
theorem eX10_best_119 : eb_at mX10_best 119 120 (.iload_n 3) 1 := ⟨by decide +kernel, rfl⟩
theorem eX10_best_120 : eb_at mX10_best 120 123 (.ifCond .ne 8) 3 := ⟨by decide +kernel, rfl⟩
theorem eX10_best_123 : eb_at mX10_best 123 125 (.iload 4) 2 := ⟨by decide +kernel, rfl⟩
theorem eX10_best_125 : eb_at mX10_best 125 128 (.goto 5) 3 := ⟨by decide +kernel, rfl⟩
theorem eX10_best_128 : eb_at mX10_best 128 130 (.iload 5) 2 := ⟨by decide +kernel, rfl⟩
theorem eX10_best_130 : eb_at mX10_best 130 131 (.ireturn) 1 := ⟨by decide +kernel, rfl⟩
theorem eX10_breakLines_0 : eb_at mX10_breakLines 0 1 (.aload_n 0) 1 := ⟨by decide +kernel, rfl⟩
theorem eX10_breakLines_1 : eb_gf mX10_breakLines 1 4 9 0 := ⟨7, (RX10, TX10, 29), by decide +kernel, rfl, rfl, by decide, wd_704⟩
theorem eX10_breakLines_4 : eb_at mX10_breakLines 4 5 (.iconst 0) 1 := ⟨by decide +kernel, rfl⟩
theorem eX10_breakLines_5 : eb_at mX10_breakLines 5 6 (.iaload) 1 := ⟨by decide +kernel, rfl⟩
theorem eX10_breakLines_6 : eb_at mX10_breakLines 6 7 (.istore_n 1) 1 := ⟨by decide +kernel, rfl⟩
theorem eX10_breakLines_7 : eb_at mX10_breakLines 7 8 (.aload_n 0) 1 := ⟨by decide +kernel, rfl⟩
theorem eX10_breakLines_8 : eb_at mX10_breakLines 8 9 (.iconst 0) 1 := ⟨by decide +kernel, rfl⟩
theorem eX10_breakLines_9 : eb_pf mX10_breakLines 9 12 9 16 false .int := ⟨140, (RX10, TX10, 29), by decide +kernel, rfl, rfl, by decide, wd_720, rfl, by decide +kernel, fun h => absurd h (by decide)⟩
theorem eX10_breakLines_12 : eb_at mX10_breakLines 12 13 (.iload_n 1) 1 := ⟨by decide +kernel, rfl⟩
theorem eX10_breakLines_13 : eb_at mX10_breakLines 13 14 (.istore_n 2) 1 := ⟨by decide +kernel, rfl⟩
theorem eX10_breakLines_14 : eb_at mX10_breakLines 14 15 (.iload_n 2) 1 := ⟨by decide +kernel, rfl⟩
theorem eX10_breakLines_15 : eb_at mX10_breakLines 15 18 (.ifCond .le 23) 3 := ⟨by decide +kernel, rfl⟩
theorem eX10_breakLines_18 : eb_at mX10_breakLines 18 19 (.aload_n 0) 1 := ⟨by decide +kernel, rfl⟩
theorem eX10_breakLines_19 : eb_at mX10_breakLines 19 20 (.dup) 1 := ⟨by decide +kernel, rfl⟩
theorem eX10_breakLines_20 : eb_gf mX10_breakLines 20 23 9 16 := ⟨140, (RX10, TX10, 29), by decide +kernel, rfl, rfl, by decide, wd_720⟩
theorem eX10_breakLines_23 : eb_at mX10_breakLines 23 24 (.iconst 1) 1 := ⟨by decide +kernel, rfl⟩
theorem eX10_breakLines_24 : eb_at mX10_breakLines 24 25 (.iadd) 1 := ⟨by decide +kernel, rfl⟩
theorem eX10_breakLines_25 : eb_pf mX10_breakLines 25 28 9 16 false .int := ⟨140, (RX10, TX10, 29), by decide +kernel, rfl, rfl, by decide, wd_720, rfl, by decide +kernel, fun h => absurd h (by decide)⟩
theorem eX10_breakLines_28 : eb_at mX10_breakLines 28 29 (.aload_n 0) 1 := ⟨by decide +kernel, rfl⟩
theorem eX10_breakLines_29 : eb_gf mX10_breakLines 29 32 9 14 := ⟨37, (RX10, TX10, 29), by decide +kernel, rfl, rfl, by decide, wd_718⟩
theorem eX10_breakLines_32 : eb_at mX10_breakLines 32 33 (.iload_n 2) 1 := ⟨by decide +kernel, rfl⟩
theorem eX10_breakLines_33 : eb_at mX10_breakLines 33 34 (.iaload) 1 := ⟨by decide +kernel, rfl⟩
theorem eX10_breakLines_34 : eb_at mX10_breakLines 34 35 (.istore_n 2) 1 := ⟨by decide +kernel, rfl⟩
theorem eX10_breakLines_35 : eb_at mX10_breakLines 35 38 (.goto (-21)) 3 := ⟨by decide +kernel, rfl⟩
theorem eX10_breakLines_38 : eb_at mX10_breakLines 38 39 (.aload_n 0) 1 := ⟨by decide +kernel, rfl⟩
theorem eX10_breakLines_39 : eb_gf mX10_breakLines 39 42 9 16 := ⟨140, (RX10, TX10, 29), by decide +kernel, rfl, rfl, by decide, wd_720⟩
theorem eX10_breakLines_42 : eb_at mX10_breakLines 42 43 (.istore_n 2) 1 := ⟨by decide +kernel, rfl⟩
theorem eX10_breakLines_43 : eb_at mX10_breakLines 43 44 (.aload_n 0) 1 := ⟨by decide +kernel, rfl⟩
theorem eX10_breakLines_44 : eb_gf mX10_breakLines 44 47 9 15 := ⟨40, (RX10, TX10, 29), by decide +kernel, rfl, rfl, by decide, wd_719⟩
theorem eX10_breakLines_47 : eb_at mX10_breakLines 47 48 (.iload_n 2) 1 := ⟨by decide +kernel, rfl⟩
theorem eX10_breakLines_48 : eb_at mX10_breakLines 48 49 (.iload_n 1) 1 := ⟨by decide +kernel, rfl⟩
theorem eX10_breakLines_49 : eb_at mX10_breakLines 49 50 (.iastore) 1 := ⟨by decide +kernel, rfl⟩
theorem eX10_breakLines_50 : eb_at mX10_breakLines 50 51 (.iload_n 1) 1 := ⟨by decide +kernel, rfl⟩
theorem eX10_breakLines_51 : eb_at mX10_breakLines 51 52 (.istore_n 3) 1 := ⟨by decide +kernel, rfl⟩
theorem eX10_breakLines_52 : eb_at mX10_breakLines 52 53 (.iload_n 3) 1 := ⟨by decide +kernel, rfl⟩
theorem eX10_breakLines_53 : eb_at mX10_breakLines 53 56 (.ifCond .le 28) 3 := ⟨by decide +kernel, rfl⟩
theorem eX10_breakLines_56 : eb_at mX10_breakLines 56 59 (.iinc 2 (-1)) 3 := ⟨by decide +kernel, rfl⟩
theorem eX10_breakLines_59 : eb_at mX10_breakLines 59 60 (.aload_n 0) 1 := ⟨by decide +kernel, rfl⟩
theorem eX10_breakLines_60 : eb_gf mX10_breakLines 60 63 9 15 := ⟨40, (RX10, TX10, 29), by decide +kernel, rfl, rfl, by decide, wd_719⟩
theorem eX10_breakLines_63 : eb_at mX10_breakLines 63 64 (.iload_n 2) 1 := ⟨by decide +kernel, rfl⟩
theorem eX10_breakLines_64 : eb_at mX10_breakLines 64 65 (.aload_n 0) 1 := ⟨by decide +kernel, rfl⟩
theorem eX10_breakLines_65 : eb_gf mX10_breakLines 65 68 9 14 := ⟨37, (RX10, TX10, 29), by decide +kernel, rfl, rfl, by decide, wd_718⟩
theorem eX10_breakLines_68 : eb_at mX10_breakLines 68 69 (.iload_n 3) 1 := ⟨by decide +kernel, rfl⟩
theorem eX10_breakLines_69 : eb_at mX10_breakLines 69 70 (.iaload) 1 := ⟨by decide +kernel, rfl⟩
theorem eX10_breakLines_70 : eb_at mX10_breakLines 70 71 (.iastore) 1 := ⟨by decide +kernel, rfl⟩
theorem eX10_breakLines_71 : eb_at mX10_breakLines 71 72 (.aload_n 0) 1 := ⟨by decide +kernel, rfl⟩
theorem eX10_breakLines_72 : eb_gf mX10_breakLines 72 75 9 14 := ⟨37, (RX10, TX10, 29), by decide +kernel, rfl, rfl, by decide, wd_718⟩
theorem eX10_breakLines_75 : eb_at mX10_breakLines 75 76 (.iload_n 3) 1 := ⟨by decide +kernel, rfl⟩
theorem eX10_breakLines_76 : eb_at mX10_breakLines 76 77 (.iaload) 1 := ⟨by decide +kernel, rfl⟩
theorem eX10_breakLines_77 : eb_at mX10_breakLines 77 78 (.istore_n 3) 1 := ⟨by decide +kernel, rfl⟩
theorem eX10_breakLines_78 : eb_at mX10_breakLines 78 81 (.goto (-26)) 3 := ⟨by decide +kernel, rfl⟩
theorem eX10_breakLines_81 : eb_at mX10_breakLines 81 82 (.return_) 1 := ⟨by decide +kernel, rfl⟩
theorem eX10_change_0 : eb_at mX10_change 0 1 (.aload_n 0) 1 := ⟨by decide +kernel, rfl⟩
theorem eX10_change_1 : eb_at mX10_change 1 2 (.iload_n 1) 1 := ⟨by decide +kernel, rfl⟩
theorem eX10_change_2 : eb_cv mX10_change 2 5 mX10_isWord 1 := ⟨153, (RX10, TX10, 29), by decide +kernel, rfl, wd_837, wd_839, wd_23, by decide, rfl, rfl, okX10_isWord⟩
theorem eX10_change_5 : eb_at mX10_change 5 8 (.ifCond .ne 6) 3 := ⟨by decide +kernel, rfl⟩
theorem eX10_change_8 : eb_at mX10_change 8 10 (.ldc 157) 2 := ⟨by decide +kernel, rfl⟩
theorem eX10_change_10 : eb_at mX10_change 10 11 (.ireturn) 1 := ⟨by decide +kernel, rfl⟩
theorem eX10_change_11 : eb_at mX10_change 11 12 (.aload_n 0) 1 := ⟨by decide +kernel, rfl⟩
theorem eX10_change_12 : eb_cv mX10_change 12 15 mX10_readOne 0 := ⟨178, (RX10, TX10, 29), by decide +kernel, rfl, wd_926, wd_928, wd_38, by decide, rfl, rfl, okX10_readOne⟩
theorem eX10_change_15 : eb_at mX10_change 15 16 (.istore_n 2) 1 := ⟨by decide +kernel, rfl⟩
theorem eX10_change_16 : eb_at mX10_change 16 17 (.iload_n 2) 1 := ⟨by decide +kernel, rfl⟩
theorem eX10_change_17 : eb_at mX10_change 17 20 (.ifCond .ge 5) 3 := ⟨by decide +kernel, rfl⟩
theorem eX10_change_20 : eb_at mX10_change 20 21 (.iload_n 2) 1 := ⟨by decide +kernel, rfl⟩
theorem eX10_change_21 : eb_at mX10_change 21 22 (.ireturn) 1 := ⟨by decide +kernel, rfl⟩
theorem eX10_change_22 : eb_at mX10_change 22 23 (.aload_n 0) 1 := ⟨by decide +kernel, rfl⟩
theorem eX10_change_23 : eb_cv mX10_change 23 26 mX10_note 0 := ⟨99, (RX10, TX10, 29), by decide +kernel, rfl, wd_817, wd_819, wd_20, by decide, rfl, rfl, okX10_note⟩
theorem eX10_change_26 : eb_at mX10_change 26 27 (.aload_n 0) 1 := ⟨by decide +kernel, rfl⟩
theorem eX10_change_27 : eb_at mX10_change 27 28 (.iload_n 1) 1 := ⟨by decide +kernel, rfl⟩
theorem eX10_change_28 : eb_at mX10_change 28 29 (.iconst 0) 1 := ⟨by decide +kernel, rfl⟩
theorem eX10_change_29 : eb_cv mX10_change 29 32 mX10_takeWord 2 := ⟨102, (RX10, TX10, 29), by decide +kernel, rfl, wd_821, wd_823, wd_21, by decide, rfl, rfl, okX10_takeWord⟩
theorem eX10_change_32 : eb_at mX10_change 32 33 (.aload_n 0) 1 := ⟨by decide +kernel, rfl⟩
theorem eX10_change_33 : eb_at mX10_change 33 34 (.iload_n 1) 1 := ⟨by decide +kernel, rfl⟩
theorem eX10_change_34 : eb_cv mX10_change 34 37 mX10_wordWidth 1 := ⟨123, (RX10, TX10, 29), by decide +kernel, rfl, wd_843, wd_845, wd_24, by decide, rfl, rfl, okX10_wordWidth⟩
theorem eX10_change_37 : eb_at mX10_change 37 38 (.ireturn) 1 := ⟨by decide +kernel, rfl⟩
theorem eX10_clearWord_0 : eb_at mX10_clearWord 0 1 (.aload_n 0) 1 := ⟨by decide +kernel, rfl⟩
theorem eX10_clearWord_1 : eb_gf mX10_clearWord 1 4 9 0 := ⟨7, (RX10, TX10, 29), by decide +kernel, rfl, rfl, by decide, wd_704⟩
theorem eX10_clearWord_4 : eb_at mX10_clearWord 4 5 (.iconst 5) 1 := ⟨by decide +kernel, rfl⟩
theorem eX10_clearWord_5 : eb_at mX10_clearWord 5 6 (.iload_n 1) 1 := ⟨by decide +kernel, rfl⟩
theorem eX10_clearWord_6 : eb_at mX10_clearWord 6 7 (.iadd) 1 := ⟨by decide +kernel, rfl⟩
theorem eX10_clearWord_7 : eb_at mX10_clearWord 7 8 (.iconst 0) 1 := ⟨by decide +kernel, rfl⟩
theorem eX10_clearWord_8 : eb_at mX10_clearWord 8 9 (.iastore) 1 := ⟨by decide +kernel, rfl⟩
theorem eX10_clearWord_9 : eb_at mX10_clearWord 9 10 (.iconst 0) 1 := ⟨by decide +kernel, rfl⟩
theorem eX10_clearWord_10 : eb_at mX10_clearWord 10 11 (.istore_n 2) 1 := ⟨by decide +kernel, rfl⟩
theorem eX10_clearWord_11 : eb_at mX10_clearWord 11 12 (.iload_n 2) 1 := ⟨by decide +kernel, rfl⟩
theorem eX10_clearWord_12 : eb_at mX10_clearWord 12 14 (.bipush 12) 2 := ⟨by decide +kernel, rfl⟩
theorem eX10_clearWord_14 : eb_at mX10_clearWord 14 17 (.if_icmp .ge 24) 3 := ⟨by decide +kernel, rfl⟩
theorem eX10_clearWord_17 : eb_at mX10_clearWord 17 18 (.aload_n 0) 1 := ⟨by decide +kernel, rfl⟩
theorem eX10_clearWord_18 : eb_gf mX10_clearWord 18 21 9 0 := ⟨7, (RX10, TX10, 29), by decide +kernel, rfl, rfl, by decide, wd_704⟩
theorem eX10_clearWord_21 : eb_at mX10_clearWord 21 23 (.bipush 45) 2 := ⟨by decide +kernel, rfl⟩
theorem eX10_clearWord_23 : eb_at mX10_clearWord 23 25 (.bipush 12) 2 := ⟨by decide +kernel, rfl⟩
theorem eX10_clearWord_25 : eb_at mX10_clearWord 25 26 (.iload_n 1) 1 := ⟨by decide +kernel, rfl⟩
theorem eX10_clearWord_26 : eb_at mX10_clearWord 26 27 (.imul) 1 := ⟨by decide +kernel, rfl⟩
theorem eX10_clearWord_27 : eb_at mX10_clearWord 27 28 (.iadd) 1 := ⟨by decide +kernel, rfl⟩
theorem eX10_clearWord_28 : eb_at mX10_clearWord 28 29 (.iload_n 2) 1 := ⟨by decide +kernel, rfl⟩
theorem eX10_clearWord_29 : eb_at mX10_clearWord 29 30 (.iadd) 1 := ⟨by decide +kernel, rfl⟩
theorem eX10_clearWord_30 : eb_at mX10_clearWord 30 31 (.iconst 0) 1 := ⟨by decide +kernel, rfl⟩
theorem eX10_clearWord_31 : eb_at mX10_clearWord 31 32 (.iastore) 1 := ⟨by decide +kernel, rfl⟩
theorem eX10_clearWord_32 : eb_at mX10_clearWord 32 35 (.iinc 2 1) 3 := ⟨by decide +kernel, rfl⟩
theorem eX10_clearWord_35 : eb_at mX10_clearWord 35 38 (.goto (-24)) 3 := ⟨by decide +kernel, rfl⟩
theorem eX10_clearWord_38 : eb_at mX10_clearWord 38 39 (.return_) 1 := ⟨by decide +kernel, rfl⟩
theorem eX10_cost_0 : eb_at mX10_cost 0 1 (.aload_n 0) 1 := ⟨by decide +kernel, rfl⟩
theorem eX10_cost_1 : eb_at mX10_cost 1 2 (.iload_n 1) 1 := ⟨by decide +kernel, rfl⟩
theorem eX10_cost_2 : eb_cv mX10_cost 2 5 mX10_isEnd 1 := ⟨169, (RX10, TX10, 29), by decide +kernel, rfl, wd_901, wd_903, wd_35, by decide, rfl, rfl, okX10_isEnd⟩
theorem eX10_cost_5 : eb_at mX10_cost 5 8 (.ifCond .eq 16) 3 := ⟨by decide +kernel, rfl⟩
theorem eX10_cost_8 : eb_at mX10_cost 8 9 (.aload_n 0) 1 := ⟨by decide +kernel, rfl⟩
theorem eX10_cost_9 : eb_at mX10_cost 9 10 (.iload_n 2) 1 := ⟨by decide +kernel, rfl⟩
theorem eX10_cost_10 : eb_cv mX10_cost 10 13 mX10_isEnd 1 := ⟨169, (RX10, TX10, 29), by decide +kernel, rfl, wd_901, wd_903, wd_35, by decide, rfl, rfl, okX10_isEnd⟩
theorem eX10_cost_13 : eb_at mX10_cost 13 16 (.ifCond .eq 8) 3 := ⟨by decide +kernel, rfl⟩
theorem eX10_cost_16 : eb_at mX10_cost 16 17 (.iload_n 2) 1 := ⟨by decide +kernel, rfl⟩
theorem eX10_cost_17 : eb_at mX10_cost 17 18 (.iload_n 1) 1 := ⟨by decide +kernel, rfl⟩
theorem eX10_cost_18 : eb_at mX10_cost 18 21 (.if_icmp .gt 6) 3 := ⟨by decide +kernel, rfl⟩
theorem eX10_cost_21 : eb_at mX10_cost 21 23 (.ldc 157) 2 := ⟨by decide +kernel, rfl⟩
theorem eX10_cost_23 : eb_at mX10_cost 23 24 (.ireturn) 1 := ⟨by decide +kernel, rfl⟩
theorem eX10_cost_24 : eb_at mX10_cost 24 25 (.aload_n 0) 1 := ⟨by decide +kernel, rfl⟩
theorem eX10_cost_25 : eb_cv mX10_cost 25 28 mX10_lay 0 := ⟨137, (RX10, TX10, 29), by decide +kernel, rfl, wd_858, wd_860, wd_27, by decide, rfl, rfl, okX10_lay⟩
theorem eX10_cost_28 : eb_at mX10_cost 28 29 (.aload_n 0) 1 := ⟨by decide +kernel, rfl⟩
theorem eX10_cost_29 : eb_gf mX10_cost 29 32 9 12 := ⟨31, (RX10, TX10, 29), by decide +kernel, rfl, rfl, by decide, wd_716⟩
theorem eX10_cost_32 : eb_at mX10_cost 32 34 (.bipush 41) 2 := ⟨by decide +kernel, rfl⟩
theorem eX10_cost_34 : eb_at mX10_cost 34 35 (.iload_n 1) 1 := ⟨by decide +kernel, rfl⟩
theorem eX10_cost_35 : eb_at mX10_cost 35 36 (.imul) 1 := ⟨by decide +kernel, rfl⟩
theorem eX10_cost_36 : eb_at mX10_cost 36 37 (.iload_n 2) 1 := ⟨by decide +kernel, rfl⟩
theorem eX10_cost_37 : eb_at mX10_cost 37 38 (.iadd) 1 := ⟨by decide +kernel, rfl⟩
theorem eX10_cost_38 : eb_at mX10_cost 38 39 (.iaload) 1 := ⟨by decide +kernel, rfl⟩
theorem eX10_cost_39 : eb_at mX10_cost 39 40 (.ireturn) 1 := ⟨by decide +kernel, rfl⟩
theorem eX10_costBy_0 : eb_at mX10_costBy 0 1 (.iload_n 1) 1 := ⟨by decide +kernel, rfl⟩
theorem eX10_costBy_1 : eb_at mX10_costBy 1 4 (.ifCond .ge 8) 3 := ⟨by decide +kernel, rfl⟩
theorem eX10_costBy_4 : eb_at mX10_costBy 4 5 (.iload_n 1) 1 := ⟨by decide +kernel, rfl⟩
theorem eX10_costBy_5 : eb_at mX10_costBy 5 6 (.ineg) 1 := ⟨by decide +kernel, rfl⟩
theorem eX10_costBy_6 : eb_at mX10_costBy 6 9 (.goto 4) 3 := ⟨by decide +kernel, rfl⟩
theorem eX10_costBy_9 : eb_at mX10_costBy 9 10 (.iload_n 1) 1 := ⟨by decide +kernel, rfl⟩
theorem eX10_costBy_10 : eb_at mX10_costBy 10 11 (.istore_n 2) 1 := ⟨by decide +kernel, rfl⟩
theorem eX10_costBy_11 : eb_at mX10_costBy 11 12 (.iload_n 0) 1 := ⟨by decide +kernel, rfl⟩
theorem eX10_costBy_12 : eb_at mX10_costBy 12 44 (.tableswitch 66 0 3 #[32, 36, 38, 51]) 32 := ⟨by decide +kernel, rfl⟩
theorem eX10_costBy_44 : eb_at mX10_costBy 44 45 (.iload_n 1) 1 := ⟨by decide +kernel, rfl⟩
theorem eX10_costBy_45 : eb_at mX10_costBy 45 46 (.iload_n 1) 1 := ⟨by decide +kernel, rfl⟩
theorem eX10_costBy_46 : eb_at mX10_costBy 46 47 (.imul) 1 := ⟨by decide +kernel, rfl⟩
theorem eX10_costBy_47 : eb_at mX10_costBy 47 48 (.ireturn) 1 := ⟨by decide +kernel, rfl⟩
theorem eX10_costBy_48 : eb_at mX10_costBy 48 49 (.iload_n 2) 1 := ⟨by decide +kernel, rfl⟩
theorem eX10_costBy_49 : eb_at mX10_costBy 49 50 (.ireturn) 1 := ⟨by decide +kernel, rfl⟩
theorem eX10_costBy_50 : eb_at mX10_costBy 50 51 (.iload_n 1) 1 := ⟨by decide +kernel, rfl⟩
theorem eX10_costBy_51 : eb_at mX10_costBy 51 54 (.ifCond .ge 10) 3 := ⟨by decide +kernel, rfl⟩
theorem eX10_costBy_54 : eb_at mX10_costBy 54 56 (.bipush 20) 2 := ⟨by decide +kernel, rfl⟩
theorem eX10_costBy_56 : eb_at mX10_costBy 56 57 (.iload_n 2) 1 := ⟨by decide +kernel, rfl⟩
theorem eX10_costBy_57 : eb_at mX10_costBy 57 58 (.imul) 1 := ⟨by decide +kernel, rfl⟩
theorem eX10_costBy_58 : eb_at mX10_costBy 58 61 (.goto 4) 3 := ⟨by decide +kernel, rfl⟩
theorem eX10_costBy_61 : eb_at mX10_costBy 61 62 (.iload_n 2) 1 := ⟨by decide +kernel, rfl⟩
theorem eX10_costBy_62 : eb_at mX10_costBy 62 63 (.ireturn) 1 := ⟨by decide +kernel, rfl⟩
theorem eX10_costBy_63 : eb_at mX10_costBy 63 64 (.iload_n 1) 1 := ⟨by decide +kernel, rfl⟩
theorem eX10_costBy_64 : eb_at mX10_costBy 64 67 (.ifCond .ge 10) 3 := ⟨by decide +kernel, rfl⟩
theorem eX10_costBy_67 : eb_at mX10_costBy 67 69 (.bipush 100) 2 := ⟨by decide +kernel, rfl⟩
theorem eX10_costBy_69 : eb_at mX10_costBy 69 70 (.iload_n 2) 1 := ⟨by decide +kernel, rfl⟩
theorem eX10_costBy_70 : eb_at mX10_costBy 70 71 (.iadd) 1 := ⟨by decide +kernel, rfl⟩
theorem eX10_costBy_71 : eb_at mX10_costBy 71 74 (.goto 6) 3 := ⟨by decide +kernel, rfl⟩
theorem eX10_costBy_74 : eb_at mX10_costBy 74 75 (.iload_n 2) 1 := ⟨by decide +kernel, rfl⟩
theorem eX10_costBy_75 : eb_at mX10_costBy 75 76 (.iconst 5) 1 := ⟨by decide +kernel, rfl⟩
theorem eX10_costBy_76 : eb_at mX10_costBy 76 77 (.idiv) 1 := ⟨by decide +kernel, rfl⟩
theorem eX10_costBy_77 : eb_at mX10_costBy 77 78 (.ireturn) 1 := ⟨by decide +kernel, rfl⟩
theorem eX10_costBy_78 : eb_at mX10_costBy 78 79 (.iload_n 1) 1 := ⟨by decide +kernel, rfl⟩
theorem eX10_costBy_79 : eb_at mX10_costBy 79 82 (.ifCond .ge 7) 3 := ⟨by decide +kernel, rfl⟩
theorem eX10_costBy_82 : eb_at mX10_costBy 82 83 (.iload_n 2) 1 := ⟨by decide +kernel, rfl⟩
theorem eX10_costBy_83 : eb_at mX10_costBy 83 86 (.goto 10) 3 := ⟨by decide +kernel, rfl⟩
theorem eX10_costBy_86 : eb_at mX10_costBy 86 88 (.bipush 100) 2 := ⟨by decide +kernel, rfl⟩
theorem eX10_costBy_88 : eb_at mX10_costBy 88 89 (.iload_n 2) 1 := ⟨by decide +kernel, rfl⟩
theorem eX10_costBy_89 : eb_at mX10_costBy 89 90 (.imul) 1 := ⟨by decide +kernel, rfl⟩
theorem eX10_costBy_90 : eb_cs mX10_costBy 90 93 mX10_root 1 := ⟨114, by decide +kernel, rfl, wd_882, wd_883, by decide, okX10_root⟩
theorem eX10_costBy_93 : eb_at mX10_costBy 93 94 (.ireturn) 1 := ⟨by decide +kernel, rfl⟩
theorem eX10_costOf_0 : eb_at mX10_costOf 0 1 (.iload_n 3) 1 := ⟨by decide +kernel, rfl⟩
theorem eX10_costOf_1 : eb_at mX10_costOf 1 2 (.aload_n 0) 1 := ⟨by decide +kernel, rfl⟩
theorem eX10_costOf_2 : eb_at mX10_costOf 2 3 (.iload_n 1) 1 := ⟨by decide +kernel, rfl⟩
theorem eX10_costOf_3 : eb_at mX10_costOf 3 4 (.iload_n 2) 1 := ⟨by decide +kernel, rfl⟩
theorem eX10_costOf_4 : eb_cv mX10_costOf 4 7 mX10_lineWidth 2 := ⟨117, (RX10, TX10, 29), by decide +kernel, rfl, wd_875, wd_877, wd_31, by decide, rfl, rfl, okX10_lineWidth⟩
theorem eX10_costOf_7 : eb_at mX10_costOf 7 8 (.isub) 1 := ⟨by decide +kernel, rfl⟩
theorem eX10_costOf_8 : eb_at mX10_costOf 8 10 (.istore 4) 2 := ⟨by decide +kernel, rfl⟩
theorem eX10_costOf_10 : eb_at mX10_costOf 10 11 (.aload_n 0) 1 := ⟨by decide +kernel, rfl⟩
theorem eX10_costOf_11 : eb_gf mX10_costOf 11 14 9 0 := ⟨7, (RX10, TX10, 29), by decide +kernel, rfl, rfl, by decide, wd_704⟩
theorem eX10_costOf_14 : eb_at mX10_costOf 14 15 (.iconst 4) 1 := ⟨by decide +kernel, rfl⟩
theorem eX10_costOf_15 : eb_at mX10_costOf 15 16 (.iaload) 1 := ⟨by decide +kernel, rfl⟩
theorem eX10_costOf_16 : eb_at mX10_costOf 16 17 (.iconst 1) 1 := ⟨by decide +kernel, rfl⟩
theorem eX10_costOf_17 : eb_at mX10_costOf 17 20 (.if_icmp .ne 27) 3 := ⟨by decide +kernel, rfl⟩
theorem eX10_costOf_20 : eb_at mX10_costOf 20 21 (.iload_n 2) 1 := ⟨by decide +kernel, rfl⟩
theorem eX10_costOf_21 : eb_at mX10_costOf 21 22 (.aload_n 0) 1 := ⟨by decide +kernel, rfl⟩
theorem eX10_costOf_22 : eb_gf mX10_costOf 22 25 9 0 := ⟨7, (RX10, TX10, 29), by decide +kernel, rfl, rfl, by decide, wd_704⟩
theorem eX10_costOf_25 : eb_at mX10_costOf 25 26 (.iconst 0) 1 := ⟨by decide +kernel, rfl⟩
theorem eX10_costOf_26 : eb_at mX10_costOf 26 27 (.iaload) 1 := ⟨by decide +kernel, rfl⟩
theorem eX10_costOf_27 : eb_at mX10_costOf 27 30 (.if_icmp .ne 17) 3 := ⟨by decide +kernel, rfl⟩
theorem eX10_costOf_30 : eb_at mX10_costOf 30 32 (.iload 4) 2 := ⟨by decide +kernel, rfl⟩
theorem eX10_costOf_32 : eb_at mX10_costOf 32 35 (.ifCond .lt 12) 3 := ⟨by decide +kernel, rfl⟩
theorem eX10_costOf_35 : eb_at mX10_costOf 35 36 (.aload_n 0) 1 := ⟨by decide +kernel, rfl⟩
theorem eX10_costOf_36 : eb_gf mX10_costOf 36 39 9 0 := ⟨7, (RX10, TX10, 29), by decide +kernel, rfl, rfl, by decide, wd_704⟩
theorem eX10_costOf_39 : eb_at mX10_costOf 39 40 (.iconst 3) 1 := ⟨by decide +kernel, rfl⟩
theorem eX10_costOf_40 : eb_at mX10_costOf 40 41 (.iaload) 1 := ⟨by decide +kernel, rfl⟩
theorem eX10_costOf_41 : eb_at mX10_costOf 41 44 (.goto 21) 3 := ⟨by decide +kernel, rfl⟩
theorem eX10_costOf_44 : eb_at mX10_costOf 44 45 (.aload_n 0) 1 := ⟨by decide +kernel, rfl⟩
theorem eX10_costOf_45 : eb_gf mX10_costOf 45 48 9 0 := ⟨7, (RX10, TX10, 29), by decide +kernel, rfl, rfl, by decide, wd_704⟩
theorem eX10_costOf_48 : eb_at mX10_costOf 48 49 (.iconst 3) 1 := ⟨by decide +kernel, rfl⟩
theorem eX10_costOf_49 : eb_at mX10_costOf 49 50 (.iaload) 1 := ⟨by decide +kernel, rfl⟩
theorem eX10_costOf_50 : eb_at mX10_costOf 50 51 (.aload_n 0) 1 := ⟨by decide +kernel, rfl⟩
theorem eX10_costOf_51 : eb_gf mX10_costOf 51 54 9 0 := ⟨7, (RX10, TX10, 29), by decide +kernel, rfl, rfl, by decide, wd_704⟩
theorem eX10_costOf_54 : eb_at mX10_costOf 54 55 (.iconst 2) 1 := ⟨by decide +kernel, rfl⟩
theorem eX10_costOf_55 : eb_at mX10_costOf 55 56 (.iaload) 1 := ⟨by decide +kernel, rfl⟩
theorem eX10_costOf_56 : eb_at mX10_costOf 56 58 (.iload 4) 2 := ⟨by decide +kernel, rfl⟩
theorem eX10_costOf_58 : eb_cs mX10_costOf 58 61 mX10_costBy 2 := ⟨120, by decide +kernel, rfl, wd_879, wd_880, by decide, okX10_costBy⟩
theorem eX10_costOf_61 : eb_at mX10_costOf 61 62 (.iadd) 1 := ⟨by decide +kernel, rfl⟩
theorem eX10_costOf_62 : eb_at mX10_costOf 62 63 (.ireturn) 1 := ⟨by decide +kernel, rfl⟩
theorem eX10_drawOf_0 : eb_at mX10_drawOf 0 1 (.aload_n 0) 1 := ⟨by decide +kernel, rfl⟩
theorem eX10_drawOf_1 : eb_at mX10_drawOf 1 2 (.aload_n 0) 1 := ⟨by decide +kernel, rfl⟩
theorem eX10_drawOf_2 : eb_gf mX10_drawOf 2 5 9 3 := ⟨194, (RX10, TX10, 29), by decide +kernel, rfl, rfl, by decide, wd_707⟩
theorem eX10_drawOf_5 : eb_at mX10_drawOf 5 6 (.i2l) 1 := ⟨by decide +kernel, rfl⟩
theorem eX10_drawOf_6 : eb_at mX10_drawOf 6 9 (.ldc2_w 197) 3 := ⟨by decide +kernel, rfl⟩
theorem eX10_drawOf_9 : eb_at mX10_drawOf 9 10 (.lmul) 1 := ⟨by decide +kernel, rfl⟩
theorem eX10_drawOf_10 : eb_at mX10_drawOf 10 13 (.ldc2_w 199) 3 := ⟨by decide +kernel, rfl⟩
theorem eX10_drawOf_13 : eb_at mX10_drawOf 13 14 (.ladd) 1 := ⟨by decide +kernel, rfl⟩
theorem eX10_drawOf_14 : eb_at mX10_drawOf 14 17 (.ldc2_w 201) 3 := ⟨by decide +kernel, rfl⟩
theorem eX10_drawOf_17 : eb_at mX10_drawOf 17 18 (.land) 1 := ⟨by decide +kernel, rfl⟩
theorem eX10_drawOf_18 : eb_at mX10_drawOf 18 19 (.l2i) 1 := ⟨by decide +kernel, rfl⟩
theorem eX10_drawOf_19 : eb_pf mX10_drawOf 19 22 9 3 false .int := ⟨194, (RX10, TX10, 29), by decide +kernel, rfl, rfl, by decide, wd_707, rfl, by decide +kernel, fun h => absurd h (by decide)⟩
theorem eX10_drawOf_22 : eb_at mX10_drawOf 22 23 (.aload_n 0) 1 := ⟨by decide +kernel, rfl⟩
theorem eX10_drawOf_23 : eb_gf mX10_drawOf 23 26 9 3 := ⟨194, (RX10, TX10, 29), by decide +kernel, rfl, rfl, by decide, wd_707⟩
theorem eX10_drawOf_26 : eb_at mX10_drawOf 26 28 (.ldc 203) 2 := ⟨by decide +kernel, rfl⟩
theorem eX10_drawOf_28 : eb_at mX10_drawOf 28 29 (.idiv) 1 := ⟨by decide +kernel, rfl⟩
theorem eX10_drawOf_29 : eb_at mX10_drawOf 29 30 (.iload_n 1) 1 := ⟨by decide +kernel, rfl⟩
theorem eX10_drawOf_30 : eb_at mX10_drawOf 30 31 (.irem) 1 := ⟨by decide +kernel, rfl⟩
theorem eX10_drawOf_31 : eb_at mX10_drawOf 31 32 (.ireturn) 1 := ⟨by decide +kernel, rfl⟩
theorem eX10_drift_0 : eb_at mX10_drift 0 1 (.iload_n 1) 1 := ⟨by decide +kernel, rfl⟩
theorem eX10_drift_1 : eb_at mX10_drift 1 2 (.i2l) 1 := ⟨by decide +kernel, rfl⟩
theorem eX10_drift_2 : eb_at mX10_drift 2 3 (.lconst 1) 1 := ⟨by decide +kernel, rfl⟩
theorem eX10_drift_3 : eb_at mX10_drift 3 6 (.ldc2_w 204) 3 := ⟨by decide +kernel, rfl⟩
theorem eX10_drift_6 : eb_cs mX10_drift 6 9 mX10_in 3 := ⟨70, by decide +kernel, rfl, wd_798, wd_799, by decide, okX10_in⟩
theorem eX10_drift_9 : eb_at mX10_drift 9 12 (.ifCond .ne 6) 3 := ⟨by decide +kernel, rfl⟩
theorem eX10_drift_12 : eb_at mX10_drift 12 14 (.ldc 76) 2 := ⟨by decide +kernel, rfl⟩
theorem eX10_drift_14 : eb_at mX10_drift 14 15 (.ireturn) 1 := ⟨by decide +kernel, rfl⟩
theorem eX10_drift_15 : eb_at mX10_drift 15 16 (.iconst 0) 1 := ⟨by decide +kernel, rfl⟩
theorem eX10_drift_16 : eb_at mX10_drift 16 17 (.istore_n 2) 1 := ⟨by decide +kernel, rfl⟩
theorem eX10_drift_17 : eb_at mX10_drift 17 18 (.iload_n 2) 1 := ⟨by decide +kernel, rfl⟩
theorem eX10_drift_18 : eb_at mX10_drift 18 19 (.iload_n 1) 1 := ⟨by decide +kernel, rfl⟩
theorem eX10_drift_19 : eb_at mX10_drift 19 22 (.if_icmp .ge 95) 3 := ⟨by decide +kernel, rfl⟩
theorem eX10_drift_22 : eb_at mX10_drift 22 23 (.aload_n 0) 1 := ⟨by decide +kernel, rfl⟩
theorem eX10_drift_23 : eb_cv mX10_drift 23 26 mX10_note 0 := ⟨99, (RX10, TX10, 29), by decide +kernel, rfl, wd_817, wd_819, wd_20, by decide, rfl, rfl, okX10_note⟩
theorem eX10_drift_26 : eb_at mX10_drift 26 27 (.aload_n 0) 1 := ⟨by decide +kernel, rfl⟩
theorem eX10_drift_27 : eb_gf mX10_drift 27 30 9 7 := ⟨19, (RX10, TX10, 29), by decide +kernel, rfl, rfl, by decide, wd_711⟩
theorem eX10_drift_30 : eb_at mX10_drift 30 31 (.iconst 0) 1 := ⟨by decide +kernel, rfl⟩
theorem eX10_drift_31 : eb_at mX10_drift 31 32 (.aload_n 0) 1 := ⟨by decide +kernel, rfl⟩
theorem eX10_drift_32 : eb_at mX10_drift 32 34 (.bipush 12) 2 := ⟨by decide +kernel, rfl⟩
theorem eX10_drift_34 : eb_cv mX10_drift 34 37 mX10_drawOf 1 := ⟨206, (RX10, TX10, 29), by decide +kernel, rfl, wd_976, wd_978, wd_43, by decide, rfl, rfl, okX10_drawOf⟩
theorem eX10_drift_37 : eb_at mX10_drift 37 38 (.iconst 1) 1 := ⟨by decide +kernel, rfl⟩
theorem eX10_drift_38 : eb_at mX10_drift 38 39 (.iadd) 1 := ⟨by decide +kernel, rfl⟩
theorem eX10_drift_39 : eb_at mX10_drift 39 40 (.iastore) 1 := ⟨by decide +kernel, rfl⟩
theorem eX10_drift_40 : eb_at mX10_drift 40 41 (.iconst 0) 1 := ⟨by decide +kernel, rfl⟩
theorem eX10_drift_41 : eb_at mX10_drift 41 42 (.istore_n 3) 1 := ⟨by decide +kernel, rfl⟩
theorem eX10_drift_42 : eb_at mX10_drift 42 43 (.iload_n 3) 1 := ⟨by decide +kernel, rfl⟩
theorem eX10_drift_43 : eb_at mX10_drift 43 44 (.aload_n 0) 1 := ⟨by decide +kernel, rfl⟩
theorem eX10_drift_44 : eb_gf mX10_drift 44 47 9 7 := ⟨19, (RX10, TX10, 29), by decide +kernel, rfl, rfl, by decide, wd_711⟩
theorem eX10_drift_47 : eb_at mX10_drift 47 48 (.iconst 0) 1 := ⟨by decide +kernel, rfl⟩
theorem eX10_drift_48 : eb_at mX10_drift 48 49 (.iaload) 1 := ⟨by decide +kernel, rfl⟩
theorem eX10_drift_49 : eb_at mX10_drift 49 52 (.if_icmp .ge 24) 3 := ⟨by decide +kernel, rfl⟩
theorem eX10_drift_52 : eb_at mX10_drift 52 53 (.aload_n 0) 1 := ⟨by decide +kernel, rfl⟩
theorem eX10_drift_53 : eb_gf mX10_drift 53 56 9 8 := ⟨22, (RX10, TX10, 29), by decide +kernel, rfl, rfl, by decide, wd_712⟩
theorem eX10_drift_56 : eb_at mX10_drift 56 57 (.iload_n 3) 1 := ⟨by decide +kernel, rfl⟩
theorem eX10_drift_57 : eb_at mX10_drift 57 59 (.bipush 97) 2 := ⟨by decide +kernel, rfl⟩
theorem eX10_drift_59 : eb_at mX10_drift 59 60 (.aload_n 0) 1 := ⟨by decide +kernel, rfl⟩
theorem eX10_drift_60 : eb_at mX10_drift 60 62 (.bipush 26) 2 := ⟨by decide +kernel, rfl⟩
theorem eX10_drift_62 : eb_cv mX10_drift 62 65 mX10_drawOf 1 := ⟨206, (RX10, TX10, 29), by decide +kernel, rfl, wd_976, wd_978, wd_43, by decide, rfl, rfl, okX10_drawOf⟩
theorem eX10_drift_65 : eb_at mX10_drift 65 66 (.iadd) 1 := ⟨by decide +kernel, rfl⟩
theorem eX10_drift_66 : eb_at mX10_drift 66 67 (.iastore) 1 := ⟨by decide +kernel, rfl⟩
theorem eX10_drift_67 : eb_at mX10_drift 67 70 (.iinc 3 1) 3 := ⟨by decide +kernel, rfl⟩
theorem eX10_drift_70 : eb_at mX10_drift 70 73 (.goto (-28)) 3 := ⟨by decide +kernel, rfl⟩
theorem eX10_drift_73 : eb_at mX10_drift 73 74 (.aload_n 0) 1 := ⟨by decide +kernel, rfl⟩
theorem eX10_drift_74 : eb_gf mX10_drift 74 77 9 0 := ⟨7, (RX10, TX10, 29), by decide +kernel, rfl, rfl, by decide, wd_704⟩
theorem eX10_drift_77 : eb_at mX10_drift 77 78 (.iconst 0) 1 := ⟨by decide +kernel, rfl⟩
theorem eX10_drift_78 : eb_at mX10_drift 78 79 (.iaload) 1 := ⟨by decide +kernel, rfl⟩
theorem eX10_drift_79 : eb_at mX10_drift 79 81 (.bipush 40) 2 := ⟨by decide +kernel, rfl⟩
theorem eX10_drift_81 : eb_at mX10_drift 81 84 (.if_icmp .ge 16) 3 := ⟨by decide +kernel, rfl⟩
theorem eX10_drift_84 : eb_at mX10_drift 84 85 (.aload_n 0) 1 := ⟨by decide +kernel, rfl⟩
theorem eX10_drift_85 : eb_at mX10_drift 85 86 (.aload_n 0) 1 := ⟨by decide +kernel, rfl⟩
theorem eX10_drift_86 : eb_gf mX10_drift 86 89 9 0 := ⟨7, (RX10, TX10, 29), by decide +kernel, rfl, rfl, by decide, wd_704⟩
theorem eX10_drift_89 : eb_at mX10_drift 89 90 (.iconst 0) 1 := ⟨by decide +kernel, rfl⟩
theorem eX10_drift_90 : eb_at mX10_drift 90 91 (.iaload) 1 := ⟨by decide +kernel, rfl⟩
theorem eX10_drift_91 : eb_cv mX10_drift 91 94 mX10_putIn 1 := ⟨184, (RX10, TX10, 29), by decide +kernel, rfl, wd_935, wd_937, wd_39, by decide, rfl, rfl, okX10_putIn⟩
theorem eX10_drift_94 : eb_at mX10_drift 94 97 (.goto 14) 3 := ⟨by decide +kernel, rfl⟩
theorem eX10_drift_97 : eb_at mX10_drift 97 98 (.aload_n 0) 1 := ⟨by decide +kernel, rfl⟩
theorem eX10_drift_98 : eb_at mX10_drift 98 99 (.aload_n 0) 1 := ⟨by decide +kernel, rfl⟩
theorem eX10_drift_99 : eb_at mX10_drift 99 101 (.bipush 40) 2 := ⟨by decide +kernel, rfl⟩
theorem eX10_drift_101 : eb_cv mX10_drift 101 104 mX10_drawOf 1 := ⟨206, (RX10, TX10, 29), by decide +kernel, rfl, wd_976, wd_978, wd_43, by decide, rfl, rfl, okX10_drawOf⟩
theorem eX10_drift_104 : eb_at mX10_drift 104 105 (.iconst 0) 1 := ⟨by decide +kernel, rfl⟩
theorem eX10_drift_105 : eb_cv mX10_drift 105 108 mX10_takeWord 2 := ⟨102, (RX10, TX10, 29), by decide +kernel, rfl, wd_821, wd_823, wd_21, by decide, rfl, rfl, okX10_takeWord⟩
theorem eX10_drift_108 : eb_at mX10_drift 108 111 (.iinc 2 1) 3 := ⟨by decide +kernel, rfl⟩
theorem eX10_drift_111 : eb_at mX10_drift 111 114 (.goto (-94)) 3 := ⟨by decide +kernel, rfl⟩
theorem eX10_drift_114 : eb_at mX10_drift 114 115 (.aload_n 0) 1 := ⟨by decide +kernel, rfl⟩
theorem eX10_drift_115 : eb_gf mX10_drift 115 118 9 0 := ⟨7, (RX10, TX10, 29), by decide +kernel, rfl, rfl, by decide, wd_704⟩
theorem eX10_drift_118 : eb_at mX10_drift 118 119 (.iconst 0) 1 := ⟨by decide +kernel, rfl⟩
theorem eX10_drift_119 : eb_at mX10_drift 119 120 (.iaload) 1 := ⟨by decide +kernel, rfl⟩
theorem eX10_drift_120 : eb_at mX10_drift 120 121 (.ireturn) 1 := ⟨by decide +kernel, rfl⟩
theorem eX10_end_0 : eb_at mX10_end 0 1 (.aload_n 0) 1 := ⟨by decide +kernel, rfl⟩
theorem eX10_end_1 : eb_at mX10_end 1 2 (.iload_n 1) 1 := ⟨by decide +kernel, rfl⟩
theorem eX10_end_2 : eb_cv mX10_end 2 5 mX10_isEnd 1 := ⟨169, (RX10, TX10, 29), by decide +kernel, rfl, wd_901, wd_903, wd_35, by decide, rfl, rfl, okX10_isEnd⟩
theorem eX10_end_5 : eb_at mX10_end 5 8 (.ifCond .ne 6) 3 := ⟨by decide +kernel, rfl⟩
theorem eX10_end_8 : eb_at mX10_end 8 10 (.ldc 157) 2 := ⟨by decide +kernel, rfl⟩
theorem eX10_end_10 : eb_at mX10_end 10 11 (.ireturn) 1 := ⟨by decide +kernel, rfl⟩
theorem eX10_end_11 : eb_at mX10_end 11 12 (.iload_n 2) 1 := ⟨by decide +kernel, rfl⟩
theorem eX10_end_12 : eb_at mX10_end 12 13 (.i2l) 1 := ⟨by decide +kernel, rfl⟩
theorem eX10_end_13 : eb_at mX10_end 13 14 (.lconst 0) 1 := ⟨by decide +kernel, rfl⟩
theorem eX10_end_14 : eb_at mX10_end 14 17 (.ldc2_w 172) 3 := ⟨by decide +kernel, rfl⟩
theorem eX10_end_17 : eb_cs mX10_end 17 20 mX10_in 3 := ⟨70, by decide +kernel, rfl, wd_798, wd_799, by decide, okX10_in⟩
theorem eX10_end_20 : eb_at mX10_end 20 23 (.ifCond .ne 6) 3 := ⟨by decide +kernel, rfl⟩
theorem eX10_end_23 : eb_at mX10_end 23 25 (.ldc 76) 2 := ⟨by decide +kernel, rfl⟩
theorem eX10_end_25 : eb_at mX10_end 25 26 (.ireturn) 1 := ⟨by decide +kernel, rfl⟩
theorem eX10_end_26 : eb_at mX10_end 26 27 (.iload_n 2) 1 := ⟨by decide +kernel, rfl⟩
theorem eX10_end_27 : eb_at mX10_end 27 28 (.iconst 2) 1 := ⟨by decide +kernel, rfl⟩
theorem eX10_end_28 : eb_at mX10_end 28 31 (.if_icmp .ne 9) 3 := ⟨by decide +kernel, rfl⟩
theorem eX10_end_31 : eb_at mX10_end 31 32 (.aload_n 0) 1 := ⟨by decide +kernel, rfl⟩
theorem eX10_end_32 : eb_at mX10_end 32 33 (.iload_n 1) 1 := ⟨by decide +kernel, rfl⟩
theorem eX10_end_33 : eb_cv mX10_end 33 36 mX10_runsAt 1 := ⟨174, (RX10, TX10, 29), by decide +kernel, rfl, wd_906, wd_908, wd_36, by decide, rfl, rfl, okX10_runsAt⟩
theorem eX10_end_36 : eb_at mX10_end 36 37 (.ireturn) 1 := ⟨by decide +kernel, rfl⟩
theorem eX10_end_37 : eb_at mX10_end 37 38 (.aload_n 0) 1 := ⟨by decide +kernel, rfl⟩
theorem eX10_end_38 : eb_cv mX10_end 38 41 mX10_lay 0 := ⟨137, (RX10, TX10, 29), by decide +kernel, rfl, wd_858, wd_860, wd_27, by decide, rfl, rfl, okX10_lay⟩
theorem eX10_end_41 : eb_at mX10_end 41 42 (.iload_n 2) 1 := ⟨by decide +kernel, rfl⟩
theorem eX10_end_42 : eb_at mX10_end 42 45 (.ifCond .ne 12) 3 := ⟨by decide +kernel, rfl⟩
theorem eX10_end_45 : eb_at mX10_end 45 46 (.aload_n 0) 1 := ⟨by decide +kernel, rfl⟩
theorem eX10_end_46 : eb_gf mX10_end 46 49 9 13 := ⟨34, (RX10, TX10, 29), by decide +kernel, rfl, rfl, by decide, wd_717⟩
theorem eX10_end_49 : eb_at mX10_end 49 50 (.iload_n 1) 1 := ⟨by decide +kernel, rfl⟩
theorem eX10_end_50 : eb_at mX10_end 50 51 (.iaload) 1 := ⟨by decide +kernel, rfl⟩
theorem eX10_end_51 : eb_at mX10_end 51 54 (.goto 9) 3 := ⟨by decide +kernel, rfl⟩
theorem eX10_end_54 : eb_at mX10_end 54 55 (.aload_n 0) 1 := ⟨by decide +kernel, rfl⟩
theorem eX10_end_55 : eb_gf mX10_end 55 58 9 14 := ⟨37, (RX10, TX10, 29), by decide +kernel, rfl, rfl, by decide, wd_718⟩
theorem eX10_end_58 : eb_at mX10_end 58 59 (.iload_n 1) 1 := ⟨by decide +kernel, rfl⟩
theorem eX10_end_59 : eb_at mX10_end 59 60 (.iaload) 1 := ⟨by decide +kernel, rfl⟩
theorem eX10_end_60 : eb_at mX10_end 60 61 (.ireturn) 1 := ⟨by decide +kernel, rfl⟩
theorem eX10_fault_0 : eb_at mX10_fault 0 1 (.aload_n 0) 1 := ⟨by decide +kernel, rfl⟩
theorem eX10_fault_1 : eb_gf mX10_fault 1 4 9 6 := ⟨66, (RX10, TX10, 29), by decide +kernel, rfl, rfl, by decide, wd_710⟩
theorem eX10_fault_4 : eb_at mX10_fault 4 5 (.ireturn) 1 := ⟨by decide +kernel, rfl⟩
theorem eX10_fee_0 : eb_at mX10_fee 0 1 (.aload_n 0) 1 := ⟨by decide +kernel, rfl⟩
theorem eX10_fee_1 : eb_at mX10_fee 1 2 (.iconst 3) 1 := ⟨by decide +kernel, rfl⟩
theorem eX10_fee_2 : eb_at mX10_fee 2 3 (.iload_n 1) 1 := ⟨by decide +kernel, rfl⟩
theorem eX10_fee_3 : eb_at mX10_fee 3 4 (.iconst 0) 1 := ⟨by decide +kernel, rfl⟩
theorem eX10_fee_4 : eb_at mX10_fee 4 6 (.bipush 99) 2 := ⟨by decide +kernel, rfl⟩
theorem eX10_fee_6 : eb_cv mX10_fee 6 9 mX10_becomes 4 := ⟨190, (RX10, TX10, 29), by decide +kernel, rfl, wd_951, wd_953, wd_41, by decide, rfl, rfl, okX10_becomes⟩
theorem eX10_fee_9 : eb_at mX10_fee 9 10 (.ireturn) 1 := ⟨by decide +kernel, rfl⟩
theorem eX10_feed_0 : eb_at mX10_feed 0 1 (.iload_n 1) 1 := ⟨by decide +kernel, rfl⟩
theorem eX10_feed_1 : eb_at mX10_feed 1 2 (.i2l) 1 := ⟨by decide +kernel, rfl⟩
theorem eX10_feed_2 : eb_at mX10_feed 2 3 (.lconst 0) 1 := ⟨by decide +kernel, rfl⟩
theorem eX10_feed_3 : eb_at mX10_feed 3 6 (.ldc2_w 74) 3 := ⟨by decide +kernel, rfl⟩
theorem eX10_feed_6 : eb_cs mX10_feed 6 9 mX10_in 3 := ⟨70, by decide +kernel, rfl, wd_798, wd_799, by decide, okX10_in⟩
theorem eX10_feed_9 : eb_at mX10_feed 9 12 (.ifCond .ne 6) 3 := ⟨by decide +kernel, rfl⟩
theorem eX10_feed_12 : eb_at mX10_feed 12 14 (.ldc 76) 2 := ⟨by decide +kernel, rfl⟩
theorem eX10_feed_14 : eb_at mX10_feed 14 15 (.ireturn) 1 := ⟨by decide +kernel, rfl⟩
theorem eX10_feed_15 : eb_at mX10_feed 15 16 (.aload_n 0) 1 := ⟨by decide +kernel, rfl⟩
theorem eX10_feed_16 : eb_gf mX10_feed 16 19 9 5 := ⟨77, (RX10, TX10, 29), by decide +kernel, rfl, rfl, by decide, wd_709⟩
theorem eX10_feed_19 : eb_at mX10_feed 19 22 (.sipush 240) 3 := ⟨by decide +kernel, rfl⟩
theorem eX10_feed_22 : eb_at mX10_feed 22 25 (.if_icmp .ne 6) 3 := ⟨by decide +kernel, rfl⟩
theorem eX10_feed_25 : eb_at mX10_feed 25 27 (.ldc 80) 2 := ⟨by decide +kernel, rfl⟩
theorem eX10_feed_27 : eb_at mX10_feed 27 28 (.ireturn) 1 := ⟨by decide +kernel, rfl⟩
theorem eX10_feed_28 : eb_at mX10_feed 28 29 (.aload_n 0) 1 := ⟨by decide +kernel, rfl⟩
theorem eX10_feed_29 : eb_gf mX10_feed 29 32 9 4 := ⟨16, (RX10, TX10, 29), by decide +kernel, rfl, rfl, by decide, wd_708⟩
theorem eX10_feed_32 : eb_at mX10_feed 32 33 (.aload_n 0) 1 := ⟨by decide +kernel, rfl⟩
theorem eX10_feed_33 : eb_gf mX10_feed 33 36 9 5 := ⟨77, (RX10, TX10, 29), by decide +kernel, rfl, rfl, by decide, wd_709⟩
theorem eX10_feed_36 : eb_at mX10_feed 36 37 (.iload_n 1) 1 := ⟨by decide +kernel, rfl⟩
theorem eX10_feed_37 : eb_at mX10_feed 37 38 (.iastore) 1 := ⟨by decide +kernel, rfl⟩
theorem eX10_feed_38 : eb_at mX10_feed 38 39 (.aload_n 0) 1 := ⟨by decide +kernel, rfl⟩
theorem eX10_feed_39 : eb_at mX10_feed 39 40 (.dup) 1 := ⟨by decide +kernel, rfl⟩
theorem eX10_feed_40 : eb_gf mX10_feed 40 43 9 5 := ⟨77, (RX10, TX10, 29), by decide +kernel, rfl, rfl, by decide, wd_709⟩
theorem eX10_feed_43 : eb_at mX10_feed 43 44 (.iconst 1) 1 := ⟨by decide +kernel, rfl⟩
theorem eX10_feed_44 : eb_at mX10_feed 44 45 (.iadd) 1 := ⟨by decide +kernel, rfl⟩
theorem eX10_feed_45 : eb_pf mX10_feed 45 48 9 5 false .int := ⟨77, (RX10, TX10, 29), by decide +kernel, rfl, rfl, by decide, wd_709, rfl, by decide +kernel, fun h => absurd h (by decide)⟩
theorem eX10_feed_48 : eb_at mX10_feed 48 49 (.aload_n 0) 1 := ⟨by decide +kernel, rfl⟩
theorem eX10_feed_49 : eb_gf mX10_feed 49 52 9 5 := ⟨77, (RX10, TX10, 29), by decide +kernel, rfl, rfl, by decide, wd_709⟩
theorem eX10_feed_52 : eb_at mX10_feed 52 53 (.ireturn) 1 := ⟨by decide +kernel, rfl⟩
theorem eX10_first_0 : eb_at mX10_first 0 1 (.iload_n 1) 1 := ⟨by decide +kernel, rfl⟩
theorem eX10_first_1 : eb_at mX10_first 1 2 (.i2l) 1 := ⟨by decide +kernel, rfl⟩
theorem eX10_first_2 : eb_at mX10_first 2 3 (.lconst 0) 1 := ⟨by decide +kernel, rfl⟩
theorem eX10_first_3 : eb_at mX10_first 3 4 (.lconst 1) 1 := ⟨by decide +kernel, rfl⟩
theorem eX10_first_4 : eb_cs mX10_first 4 7 mX10_in 3 := ⟨70, by decide +kernel, rfl, wd_798, wd_799, by decide, okX10_in⟩
theorem eX10_first_7 : eb_at mX10_first 7 10 (.ifCond .eq 11) 3 := ⟨by decide +kernel, rfl⟩
theorem eX10_first_10 : eb_at mX10_first 10 11 (.aload_n 0) 1 := ⟨by decide +kernel, rfl⟩
theorem eX10_first_11 : eb_at mX10_first 11 12 (.iload_n 1) 1 := ⟨by decide +kernel, rfl⟩
theorem eX10_first_12 : eb_cv mX10_first 12 15 mX10_firstOf 1 := ⟨209, (RX10, TX10, 29), by decide +kernel, rfl, wd_992, wd_994, wd_44, by decide, rfl, rfl, okX10_firstOf⟩
theorem eX10_first_15 : eb_at mX10_first 15 18 (.goto 5) 3 := ⟨by decide +kernel, rfl⟩
theorem eX10_first_18 : eb_at mX10_first 18 20 (.ldc 76) 2 := ⟨by decide +kernel, rfl⟩
theorem eX10_first_20 : eb_at mX10_first 20 21 (.ireturn) 1 := ⟨by decide +kernel, rfl⟩
theorem eX10_firstOf_0 : eb_at mX10_firstOf 0 1 (.aload_n 0) 1 := ⟨by decide +kernel, rfl⟩
theorem eX10_firstOf_1 : eb_cv mX10_firstOf 1 4 mX10_lay 0 := ⟨137, (RX10, TX10, 29), by decide +kernel, rfl, wd_858, wd_860, wd_27, by decide, rfl, rfl, okX10_lay⟩
theorem eX10_firstOf_4 : eb_at mX10_firstOf 4 5 (.aload_n 0) 1 := ⟨by decide +kernel, rfl⟩
theorem eX10_firstOf_5 : eb_gf mX10_firstOf 5 8 9 0 := ⟨7, (RX10, TX10, 29), by decide +kernel, rfl, rfl, by decide, wd_704⟩
theorem eX10_firstOf_8 : eb_at mX10_firstOf 8 9 (.iconst 0) 1 := ⟨by decide +kernel, rfl⟩
theorem eX10_firstOf_9 : eb_at mX10_firstOf 9 10 (.iaload) 1 := ⟨by decide +kernel, rfl⟩
theorem eX10_firstOf_10 : eb_at mX10_firstOf 10 11 (.istore_n 2) 1 := ⟨by decide +kernel, rfl⟩
theorem eX10_firstOf_11 : eb_at mX10_firstOf 11 12 (.iconst 0) 1 := ⟨by decide +kernel, rfl⟩
theorem eX10_firstOf_12 : eb_at mX10_firstOf 12 13 (.istore_n 3) 1 := ⟨by decide +kernel, rfl⟩
theorem eX10_firstOf_13 : eb_at mX10_firstOf 13 14 (.iload_n 3) 1 := ⟨by decide +kernel, rfl⟩
theorem eX10_firstOf_14 : eb_at mX10_firstOf 14 15 (.iload_n 2) 1 := ⟨by decide +kernel, rfl⟩
theorem eX10_firstOf_15 : eb_at mX10_firstOf 15 18 (.if_icmp .gt 167) 3 := ⟨by decide +kernel, rfl⟩
theorem eX10_firstOf_18 : eb_at mX10_firstOf 18 19 (.iload_n 3) 1 := ⟨by decide +kernel, rfl⟩
theorem eX10_firstOf_19 : eb_at mX10_firstOf 19 20 (.iconst 1) 1 := ⟨by decide +kernel, rfl⟩
theorem eX10_firstOf_20 : eb_at mX10_firstOf 20 21 (.iadd) 1 := ⟨by decide +kernel, rfl⟩
theorem eX10_firstOf_21 : eb_at mX10_firstOf 21 23 (.istore 4) 2 := ⟨by decide +kernel, rfl⟩
theorem eX10_firstOf_23 : eb_at mX10_firstOf 23 25 (.iload 4) 2 := ⟨by decide +kernel, rfl⟩
theorem eX10_firstOf_25 : eb_at mX10_firstOf 25 26 (.iload_n 2) 1 := ⟨by decide +kernel, rfl⟩
theorem eX10_firstOf_26 : eb_at mX10_firstOf 26 29 (.if_icmp .gt 150) 3 := ⟨by decide +kernel, rfl⟩
theorem eX10_firstOf_29 : eb_at mX10_firstOf 29 31 (.iload 4) 2 := ⟨by decide +kernel, rfl⟩
theorem eX10_firstOf_31 : eb_at mX10_firstOf 31 32 (.iconst 1) 1 := ⟨by decide +kernel, rfl⟩
theorem eX10_firstOf_32 : eb_at mX10_firstOf 32 33 (.iadd) 1 := ⟨by decide +kernel, rfl⟩
theorem eX10_firstOf_33 : eb_at mX10_firstOf 33 35 (.istore 5) 2 := ⟨by decide +kernel, rfl⟩
theorem eX10_firstOf_35 : eb_at mX10_firstOf 35 37 (.iload 5) 2 := ⟨by decide +kernel, rfl⟩
theorem eX10_firstOf_37 : eb_at mX10_firstOf 37 38 (.iload_n 2) 1 := ⟨by decide +kernel, rfl⟩
theorem eX10_firstOf_38 : eb_at mX10_firstOf 38 41 (.if_icmp .gt 132) 3 := ⟨by decide +kernel, rfl⟩
theorem eX10_firstOf_41 : eb_at mX10_firstOf 41 43 (.iload 5) 2 := ⟨by decide +kernel, rfl⟩
theorem eX10_firstOf_43 : eb_at mX10_firstOf 43 44 (.iconst 1) 1 := ⟨by decide +kernel, rfl⟩
theorem eX10_firstOf_44 : eb_at mX10_firstOf 44 45 (.iadd) 1 := ⟨by decide +kernel, rfl⟩
theorem eX10_firstOf_45 : eb_at mX10_firstOf 45 47 (.istore 6) 2 := ⟨by decide +kernel, rfl⟩
theorem eX10_firstOf_47 : eb_at mX10_firstOf 47 49 (.iload 6) 2 := ⟨by decide +kernel, rfl⟩
theorem eX10_firstOf_49 : eb_at mX10_firstOf 49 50 (.iload_n 2) 1 := ⟨by decide +kernel, rfl⟩
theorem eX10_firstOf_50 : eb_at mX10_firstOf 50 53 (.if_icmp .gt 114) 3 := ⟨by decide +kernel, rfl⟩
theorem eX10_firstOf_53 : eb_at mX10_firstOf 53 54 (.aload_n 0) 1 := ⟨by decide +kernel, rfl⟩
theorem eX10_firstOf_54 : eb_gf mX10_firstOf 54 57 9 12 := ⟨31, (RX10, TX10, 29), by decide +kernel, rfl, rfl, by decide, wd_716⟩
theorem eX10_firstOf_57 : eb_at mX10_firstOf 57 59 (.bipush 41) 2 := ⟨by decide +kernel, rfl⟩
theorem eX10_firstOf_59 : eb_at mX10_firstOf 59 60 (.iload_n 3) 1 := ⟨by decide +kernel, rfl⟩
theorem eX10_firstOf_60 : eb_at mX10_firstOf 60 61 (.imul) 1 := ⟨by decide +kernel, rfl⟩
theorem eX10_firstOf_61 : eb_at mX10_firstOf 61 63 (.iload 5) 2 := ⟨by decide +kernel, rfl⟩
theorem eX10_firstOf_63 : eb_at mX10_firstOf 63 64 (.iadd) 1 := ⟨by decide +kernel, rfl⟩
theorem eX10_firstOf_64 : eb_at mX10_firstOf 64 65 (.iaload) 1 := ⟨by decide +kernel, rfl⟩
theorem eX10_firstOf_65 : eb_at mX10_firstOf 65 66 (.aload_n 0) 1 := ⟨by decide +kernel, rfl⟩
theorem eX10_firstOf_66 : eb_gf mX10_firstOf 66 69 9 12 := ⟨31, (RX10, TX10, 29), by decide +kernel, rfl, rfl, by decide, wd_716⟩
theorem eX10_firstOf_69 : eb_at mX10_firstOf 69 71 (.bipush 41) 2 := ⟨by decide +kernel, rfl⟩
theorem eX10_firstOf_71 : eb_at mX10_firstOf 71 73 (.iload 4) 2 := ⟨by decide +kernel, rfl⟩
theorem eX10_firstOf_73 : eb_at mX10_firstOf 73 74 (.imul) 1 := ⟨by decide +kernel, rfl⟩
theorem eX10_firstOf_74 : eb_at mX10_firstOf 74 76 (.iload 6) 2 := ⟨by decide +kernel, rfl⟩
theorem eX10_firstOf_76 : eb_at mX10_firstOf 76 77 (.iadd) 1 := ⟨by decide +kernel, rfl⟩
theorem eX10_firstOf_77 : eb_at mX10_firstOf 77 78 (.iaload) 1 := ⟨by decide +kernel, rfl⟩
theorem eX10_firstOf_78 : eb_at mX10_firstOf 78 79 (.iadd) 1 := ⟨by decide +kernel, rfl⟩
theorem eX10_firstOf_79 : eb_at mX10_firstOf 79 81 (.istore 7) 2 := ⟨by decide +kernel, rfl⟩
theorem eX10_firstOf_81 : eb_at mX10_firstOf 81 82 (.aload_n 0) 1 := ⟨by decide +kernel, rfl⟩
theorem eX10_firstOf_82 : eb_gf mX10_firstOf 82 85 9 12 := ⟨31, (RX10, TX10, 29), by decide +kernel, rfl, rfl, by decide, wd_716⟩
theorem eX10_firstOf_85 : eb_at mX10_firstOf 85 87 (.bipush 41) 2 := ⟨by decide +kernel, rfl⟩
theorem eX10_firstOf_87 : eb_at mX10_firstOf 87 88 (.iload_n 3) 1 := ⟨by decide +kernel, rfl⟩
theorem eX10_firstOf_88 : eb_at mX10_firstOf 88 89 (.imul) 1 := ⟨by decide +kernel, rfl⟩
theorem eX10_firstOf_89 : eb_at mX10_firstOf 89 91 (.iload 6) 2 := ⟨by decide +kernel, rfl⟩
theorem eX10_firstOf_91 : eb_at mX10_firstOf 91 92 (.iadd) 1 := ⟨by decide +kernel, rfl⟩
theorem eX10_firstOf_92 : eb_at mX10_firstOf 92 93 (.iaload) 1 := ⟨by decide +kernel, rfl⟩
theorem eX10_firstOf_93 : eb_at mX10_firstOf 93 94 (.aload_n 0) 1 := ⟨by decide +kernel, rfl⟩
theorem eX10_firstOf_94 : eb_gf mX10_firstOf 94 97 9 12 := ⟨31, (RX10, TX10, 29), by decide +kernel, rfl, rfl, by decide, wd_716⟩
theorem eX10_firstOf_97 : eb_at mX10_firstOf 97 99 (.bipush 41) 2 := ⟨by decide +kernel, rfl⟩
theorem eX10_firstOf_99 : eb_at mX10_firstOf 99 101 (.iload 4) 2 := ⟨by decide +kernel, rfl⟩
theorem eX10_firstOf_101 : eb_at mX10_firstOf 101 102 (.imul) 1 := ⟨by decide +kernel, rfl⟩
theorem eX10_firstOf_102 : eb_at mX10_firstOf 102 104 (.iload 5) 2 := ⟨by decide +kernel, rfl⟩
theorem eX10_firstOf_104 : eb_at mX10_firstOf 104 105 (.iadd) 1 := ⟨by decide +kernel, rfl⟩
theorem eX10_firstOf_105 : eb_at mX10_firstOf 105 106 (.iaload) 1 := ⟨by decide +kernel, rfl⟩
theorem eX10_firstOf_106 : eb_at mX10_firstOf 106 107 (.iadd) 1 := ⟨by decide +kernel, rfl⟩
theorem eX10_firstOf_107 : eb_at mX10_firstOf 107 109 (.istore 8) 2 := ⟨by decide +kernel, rfl⟩
theorem eX10_firstOf_109 : eb_at mX10_firstOf 109 110 (.iload_n 1) 1 := ⟨by decide +kernel, rfl⟩
theorem eX10_firstOf_110 : eb_at mX10_firstOf 110 113 (.ifCond .ne 13) 3 := ⟨by decide +kernel, rfl⟩
theorem eX10_firstOf_113 : eb_at mX10_firstOf 113 115 (.iload 7) 2 := ⟨by decide +kernel, rfl⟩
theorem eX10_firstOf_115 : eb_at mX10_firstOf 115 117 (.iload 8) 2 := ⟨by decide +kernel, rfl⟩
theorem eX10_firstOf_117 : eb_at mX10_firstOf 117 120 (.if_icmp .le 41) 3 := ⟨by decide +kernel, rfl⟩
theorem eX10_firstOf_120 : eb_at mX10_firstOf 120 123 (.goto 10) 3 := ⟨by decide +kernel, rfl⟩
theorem eX10_firstOf_123 : eb_at mX10_firstOf 123 125 (.iload 7) 2 := ⟨by decide +kernel, rfl⟩
theorem eX10_firstOf_125 : eb_at mX10_firstOf 125 127 (.iload 8) 2 := ⟨by decide +kernel, rfl⟩
theorem eX10_firstOf_127 : eb_at mX10_firstOf 127 130 (.if_icmp .ge 31) 3 := ⟨by decide +kernel, rfl⟩
theorem eX10_firstOf_130 : eb_at mX10_firstOf 130 132 (.bipush 41) 2 := ⟨by decide +kernel, rfl⟩
theorem eX10_firstOf_132 : eb_at mX10_firstOf 132 134 (.bipush 41) 2 := ⟨by decide +kernel, rfl⟩
theorem eX10_firstOf_134 : eb_at mX10_firstOf 134 136 (.bipush 41) 2 := ⟨by decide +kernel, rfl⟩
theorem eX10_firstOf_136 : eb_at mX10_firstOf 136 137 (.iload_n 3) 1 := ⟨by decide +kernel, rfl⟩
theorem eX10_firstOf_137 : eb_at mX10_firstOf 137 138 (.iconst 1) 1 := ⟨by decide +kernel, rfl⟩
theorem eX10_firstOf_138 : eb_at mX10_firstOf 138 139 (.iadd) 1 := ⟨by decide +kernel, rfl⟩
theorem eX10_firstOf_139 : eb_at mX10_firstOf 139 140 (.imul) 1 := ⟨by decide +kernel, rfl⟩
theorem eX10_firstOf_140 : eb_at mX10_firstOf 140 142 (.iload 4) 2 := ⟨by decide +kernel, rfl⟩
theorem eX10_firstOf_142 : eb_at mX10_firstOf 142 143 (.iadd) 1 := ⟨by decide +kernel, rfl⟩
theorem eX10_firstOf_143 : eb_at mX10_firstOf 143 144 (.iconst 1) 1 := ⟨by decide +kernel, rfl⟩
theorem eX10_firstOf_144 : eb_at mX10_firstOf 144 145 (.iadd) 1 := ⟨by decide +kernel, rfl⟩
theorem eX10_firstOf_145 : eb_at mX10_firstOf 145 146 (.imul) 1 := ⟨by decide +kernel, rfl⟩
theorem eX10_firstOf_146 : eb_at mX10_firstOf 146 148 (.iload 5) 2 := ⟨by decide +kernel, rfl⟩
theorem eX10_firstOf_148 : eb_at mX10_firstOf 148 149 (.iadd) 1 := ⟨by decide +kernel, rfl⟩
theorem eX10_firstOf_149 : eb_at mX10_firstOf 149 150 (.iconst 1) 1 := ⟨by decide +kernel, rfl⟩
theorem eX10_firstOf_150 : eb_at mX10_firstOf 150 151 (.iadd) 1 := ⟨by decide +kernel, rfl⟩
theorem eX10_firstOf_151 : eb_at mX10_firstOf 151 152 (.imul) 1 := ⟨by decide +kernel, rfl⟩
theorem eX10_firstOf_152 : eb_at mX10_firstOf 152 154 (.iload 6) 2 := ⟨by decide +kernel, rfl⟩
theorem eX10_firstOf_154 : eb_at mX10_firstOf 154 155 (.iadd) 1 := ⟨by decide +kernel, rfl⟩
theorem eX10_firstOf_155 : eb_at mX10_firstOf 155 156 (.iconst 1) 1 := ⟨by decide +kernel, rfl⟩
theorem eX10_firstOf_156 : eb_at mX10_firstOf 156 157 (.iadd) 1 := ⟨by decide +kernel, rfl⟩
theorem eX10_firstOf_157 : eb_at mX10_firstOf 157 158 (.ireturn) 1 := ⟨by decide +kernel, rfl⟩
theorem eX10_firstOf_158 : eb_at mX10_firstOf 158 161 (.iinc 6 1) 3 := ⟨by decide +kernel, rfl⟩
theorem eX10_firstOf_161 : eb_at mX10_firstOf 161 164 (.goto (-114)) 3 := ⟨by decide +kernel, rfl⟩
theorem eX10_firstOf_164 : eb_at mX10_firstOf 164 167 (.iinc 5 1) 3 := ⟨by decide +kernel, rfl⟩
theorem eX10_firstOf_167 : eb_at mX10_firstOf 167 170 (.goto (-132)) 3 := ⟨by decide +kernel, rfl⟩
theorem eX10_firstOf_170 : eb_at mX10_firstOf 170 173 (.iinc 4 1) 3 := ⟨by decide +kernel, rfl⟩
theorem eX10_firstOf_173 : eb_at mX10_firstOf 173 176 (.goto (-150)) 3 := ⟨by decide +kernel, rfl⟩
theorem eX10_firstOf_176 : eb_at mX10_firstOf 176 179 (.iinc 3 1) 3 := ⟨by decide +kernel, rfl⟩
theorem eX10_firstOf_179 : eb_at mX10_firstOf 179 182 (.goto (-166)) 3 := ⟨by decide +kernel, rfl⟩
theorem eX10_firstOf_182 : eb_at mX10_firstOf 182 183 (.iconst (-1)) 1 := ⟨by decide +kernel, rfl⟩
theorem eX10_firstOf_183 : eb_at mX10_firstOf 183 184 (.ireturn) 1 := ⟨by decide +kernel, rfl⟩
theorem eX10_free_0 : eb_at mX10_free 0 1 (.aload_n 0) 1 := ⟨by decide +kernel, rfl⟩
theorem eX10_free_1 : eb_at mX10_free 1 2 (.iconst 4) 1 := ⟨by decide +kernel, rfl⟩
theorem eX10_free_2 : eb_at mX10_free 2 3 (.iload_n 1) 1 := ⟨by decide +kernel, rfl⟩
theorem eX10_free_3 : eb_at mX10_free 3 6 (.ifCond .eq 7) 3 := ⟨by decide +kernel, rfl⟩
theorem eX10_free_6 : eb_at mX10_free 6 7 (.iconst 1) 1 := ⟨by decide +kernel, rfl⟩
theorem eX10_free_7 : eb_at mX10_free 7 10 (.goto 4) 3 := ⟨by decide +kernel, rfl⟩
theorem eX10_free_10 : eb_at mX10_free 10 11 (.iconst 0) 1 := ⟨by decide +kernel, rfl⟩
theorem eX10_free_11 : eb_at mX10_free 11 12 (.iconst 0) 1 := ⟨by decide +kernel, rfl⟩
theorem eX10_free_12 : eb_at mX10_free 12 13 (.iconst 1) 1 := ⟨by decide +kernel, rfl⟩
theorem eX10_free_13 : eb_cv mX10_free 13 16 mX10_becomes 4 := ⟨190, (RX10, TX10, 29), by decide +kernel, rfl, wd_951, wd_953, wd_41, by decide, rfl, rfl, okX10_becomes⟩
theorem eX10_free_16 : eb_at mX10_free 16 17 (.ireturn) 1 := ⟨by decide +kernel, rfl⟩
theorem eX10_goBack_0 : eb_at mX10_goBack 0 1 (.iload_n 1) 1 := ⟨by decide +kernel, rfl⟩
theorem eX10_goBack_1 : eb_at mX10_goBack 1 2 (.i2l) 1 := ⟨by decide +kernel, rfl⟩
theorem eX10_goBack_2 : eb_at mX10_goBack 2 3 (.lconst 0) 1 := ⟨by decide +kernel, rfl⟩
theorem eX10_goBack_3 : eb_at mX10_goBack 3 4 (.lconst 1) 1 := ⟨by decide +kernel, rfl⟩
theorem eX10_goBack_4 : eb_cs mX10_goBack 4 7 mX10_in 3 := ⟨70, by decide +kernel, rfl, wd_798, wd_799, by decide, okX10_in⟩
theorem eX10_goBack_7 : eb_at mX10_goBack 7 10 (.ifCond .ne 6) 3 := ⟨by decide +kernel, rfl⟩
theorem eX10_goBack_10 : eb_at mX10_goBack 10 12 (.ldc 157) 2 := ⟨by decide +kernel, rfl⟩
theorem eX10_goBack_12 : eb_at mX10_goBack 12 13 (.ireturn) 1 := ⟨by decide +kernel, rfl⟩
theorem eX10_goBack_13 : eb_at mX10_goBack 13 14 (.aload_n 0) 1 := ⟨by decide +kernel, rfl⟩
theorem eX10_goBack_14 : eb_gf mX10_goBack 14 17 9 28 := ⟨63, (RX10, TX10, 29), by decide +kernel, rfl, rfl, by decide, wd_732⟩
theorem eX10_goBack_17 : eb_at mX10_goBack 17 18 (.iload_n 1) 1 := ⟨by decide +kernel, rfl⟩
theorem eX10_goBack_18 : eb_at mX10_goBack 18 19 (.baload) 1 := ⟨by decide +kernel, rfl⟩
theorem eX10_goBack_19 : eb_at mX10_goBack 19 22 (.ifCond .ne 6) 3 := ⟨by decide +kernel, rfl⟩
theorem eX10_goBack_22 : eb_at mX10_goBack 22 24 (.ldc 177) 2 := ⟨by decide +kernel, rfl⟩
theorem eX10_goBack_24 : eb_at mX10_goBack 24 25 (.ireturn) 1 := ⟨by decide +kernel, rfl⟩
theorem eX10_goBack_25 : eb_at mX10_goBack 25 26 (.iconst 0) 1 := ⟨by decide +kernel, rfl⟩
theorem eX10_goBack_26 : eb_at mX10_goBack 26 27 (.istore_n 2) 1 := ⟨by decide +kernel, rfl⟩
theorem eX10_goBack_27 : eb_at mX10_goBack 27 28 (.iload_n 2) 1 := ⟨by decide +kernel, rfl⟩
theorem eX10_goBack_28 : eb_at mX10_goBack 28 31 (.sipush 525) 3 := ⟨by decide +kernel, rfl⟩
theorem eX10_goBack_31 : eb_at mX10_goBack 31 34 (.if_icmp .ge 27) 3 := ⟨by decide +kernel, rfl⟩
theorem eX10_goBack_34 : eb_at mX10_goBack 34 35 (.aload_n 0) 1 := ⟨by decide +kernel, rfl⟩
theorem eX10_goBack_35 : eb_gf mX10_goBack 35 38 9 0 := ⟨7, (RX10, TX10, 29), by decide +kernel, rfl, rfl, by decide, wd_704⟩
theorem eX10_goBack_38 : eb_at mX10_goBack 38 39 (.iload_n 2) 1 := ⟨by decide +kernel, rfl⟩
theorem eX10_goBack_39 : eb_at mX10_goBack 39 40 (.aload_n 0) 1 := ⟨by decide +kernel, rfl⟩
theorem eX10_goBack_40 : eb_gf mX10_goBack 40 43 9 27 := ⟨60, (RX10, TX10, 29), by decide +kernel, rfl, rfl, by decide, wd_731⟩
theorem eX10_goBack_43 : eb_at mX10_goBack 43 46 (.sipush 526) 3 := ⟨by decide +kernel, rfl⟩
theorem eX10_goBack_46 : eb_at mX10_goBack 46 47 (.iload_n 1) 1 := ⟨by decide +kernel, rfl⟩
theorem eX10_goBack_47 : eb_at mX10_goBack 47 48 (.imul) 1 := ⟨by decide +kernel, rfl⟩
theorem eX10_goBack_48 : eb_at mX10_goBack 48 49 (.iload_n 2) 1 := ⟨by decide +kernel, rfl⟩
theorem eX10_goBack_49 : eb_at mX10_goBack 49 50 (.iadd) 1 := ⟨by decide +kernel, rfl⟩
theorem eX10_goBack_50 : eb_at mX10_goBack 50 51 (.iaload) 1 := ⟨by decide +kernel, rfl⟩
theorem eX10_goBack_51 : eb_at mX10_goBack 51 52 (.iastore) 1 := ⟨by decide +kernel, rfl⟩
theorem eX10_goBack_52 : eb_at mX10_goBack 52 55 (.iinc 2 1) 3 := ⟨by decide +kernel, rfl⟩
theorem eX10_goBack_55 : eb_at mX10_goBack 55 58 (.goto (-28)) 3 := ⟨by decide +kernel, rfl⟩
theorem eX10_goBack_58 : eb_at mX10_goBack 58 59 (.aload_n 0) 1 := ⟨by decide +kernel, rfl⟩
theorem eX10_goBack_59 : eb_at mX10_goBack 59 60 (.aload_n 0) 1 := ⟨by decide +kernel, rfl⟩
theorem eX10_goBack_60 : eb_gf mX10_goBack 60 63 9 27 := ⟨60, (RX10, TX10, 29), by decide +kernel, rfl, rfl, by decide, wd_731⟩
theorem eX10_goBack_63 : eb_at mX10_goBack 63 66 (.sipush 526) 3 := ⟨by decide +kernel, rfl⟩
theorem eX10_goBack_66 : eb_at mX10_goBack 66 67 (.iload_n 1) 1 := ⟨by decide +kernel, rfl⟩
theorem eX10_goBack_67 : eb_at mX10_goBack 67 68 (.imul) 1 := ⟨by decide +kernel, rfl⟩
theorem eX10_goBack_68 : eb_at mX10_goBack 68 71 (.sipush 525) 3 := ⟨by decide +kernel, rfl⟩
theorem eX10_goBack_71 : eb_at mX10_goBack 71 72 (.iadd) 1 := ⟨by decide +kernel, rfl⟩
theorem eX10_goBack_72 : eb_at mX10_goBack 72 73 (.iaload) 1 := ⟨by decide +kernel, rfl⟩
theorem eX10_goBack_73 : eb_pf mX10_goBack 73 76 9 3 false .int := ⟨194, (RX10, TX10, 29), by decide +kernel, rfl, rfl, by decide, wd_707, rfl, by decide +kernel, fun h => absurd h (by decide)⟩
theorem eX10_goBack_76 : eb_at mX10_goBack 76 77 (.aload_n 0) 1 := ⟨by decide +kernel, rfl⟩
theorem eX10_goBack_77 : eb_at mX10_goBack 77 78 (.iconst 0) 1 := ⟨by decide +kernel, rfl⟩
theorem eX10_goBack_78 : eb_pf mX10_goBack 78 81 9 2 false .int := ⟨92, (RX10, TX10, 29), by decide +kernel, rfl, rfl, by decide, wd_706, rfl, by decide +kernel, fun h => absurd h (by decide)⟩
theorem eX10_goBack_81 : eb_at mX10_goBack 81 82 (.iconst 1) 1 := ⟨by decide +kernel, rfl⟩
theorem eX10_goBack_82 : eb_at mX10_goBack 82 83 (.ireturn) 1 := ⟨by decide +kernel, rfl⟩
theorem eX10_growsOf_0 : eb_at mX10_growsOf 0 1 (.aload_n 0) 1 := ⟨by decide +kernel, rfl⟩
theorem eX10_growsOf_1 : eb_cv mX10_growsOf 1 4 mX10_layLines 0 := ⟨146, (RX10, TX10, 29), by decide +kernel, rfl, wd_854, wd_856, wd_26, by decide, rfl, rfl, okX10_layLines⟩
theorem eX10_growsOf_4 : eb_at mX10_growsOf 4 5 (.aload_n 0) 1 := ⟨by decide +kernel, rfl⟩
theorem eX10_growsOf_5 : eb_cv mX10_growsOf 5 8 mX10_beginSet 0 := ⟨149, (RX10, TX10, 29), by decide +kernel, rfl, wd_893, wd_895, wd_34, by decide, rfl, rfl, okX10_beginSet⟩
theorem eX10_growsOf_8 : eb_at mX10_growsOf 8 9 (.lstore_n 2) 1 := ⟨by decide +kernel, rfl⟩
theorem eX10_growsOf_9 : eb_at mX10_growsOf 9 10 (.iconst (-1)) 1 := ⟨by decide +kernel, rfl⟩
theorem eX10_growsOf_10 : eb_at mX10_growsOf 10 12 (.istore 4) 2 := ⟨by decide +kernel, rfl⟩
theorem eX10_growsOf_12 : eb_at mX10_growsOf 12 13 (.iconst 1) 1 := ⟨by decide +kernel, rfl⟩
theorem eX10_growsOf_13 : eb_at mX10_growsOf 13 15 (.istore 5) 2 := ⟨by decide +kernel, rfl⟩
theorem eX10_growsOf_15 : eb_at mX10_growsOf 15 17 (.iload 5) 2 := ⟨by decide +kernel, rfl⟩
theorem eX10_growsOf_17 : eb_at mX10_growsOf 17 19 (.bipush 50) 2 := ⟨by decide +kernel, rfl⟩
theorem eX10_growsOf_19 : eb_at mX10_growsOf 19 22 (.if_icmp .gt 55) 3 := ⟨by decide +kernel, rfl⟩
theorem eX10_growsOf_22 : eb_at mX10_growsOf 22 24 (.iload 4) 2 := ⟨by decide +kernel, rfl⟩
theorem eX10_growsOf_24 : eb_at mX10_growsOf 24 27 (.ifCond .ge 50) 3 := ⟨by decide +kernel, rfl⟩
theorem eX10_growsOf_27 : eb_at mX10_growsOf 27 28 (.aload_n 0) 1 := ⟨by decide +kernel, rfl⟩
theorem eX10_growsOf_28 : eb_gf mX10_growsOf 28 31 9 10 := ⟨25, (RX10, TX10, 29), by decide +kernel, rfl, rfl, by decide, wd_714⟩
theorem eX10_growsOf_31 : eb_at mX10_growsOf 31 32 (.iload_n 1) 1 := ⟨by decide +kernel, rfl⟩
theorem eX10_growsOf_32 : eb_at mX10_growsOf 32 33 (.dup2) 1 := ⟨by decide +kernel, rfl⟩
theorem eX10_growsOf_33 : eb_at mX10_growsOf 33 34 (.iaload) 1 := ⟨by decide +kernel, rfl⟩
theorem eX10_growsOf_34 : eb_at mX10_growsOf 34 35 (.iconst 1) 1 := ⟨by decide +kernel, rfl⟩
theorem eX10_growsOf_35 : eb_at mX10_growsOf 35 36 (.iadd) 1 := ⟨by decide +kernel, rfl⟩
theorem eX10_growsOf_36 : eb_at mX10_growsOf 36 37 (.iastore) 1 := ⟨by decide +kernel, rfl⟩
theorem eX10_growsOf_37 : eb_at mX10_growsOf 37 38 (.aload_n 0) 1 := ⟨by decide +kernel, rfl⟩
theorem eX10_growsOf_38 : eb_at mX10_growsOf 38 39 (.aload_n 0) 1 := ⟨by decide +kernel, rfl⟩
theorem eX10_growsOf_39 : eb_gf mX10_growsOf 39 42 9 0 := ⟨7, (RX10, TX10, 29), by decide +kernel, rfl, rfl, by decide, wd_704⟩
theorem eX10_growsOf_42 : eb_at mX10_growsOf 42 43 (.iconst 1) 1 := ⟨by decide +kernel, rfl⟩
theorem eX10_growsOf_43 : eb_at mX10_growsOf 43 44 (.iaload) 1 := ⟨by decide +kernel, rfl⟩
theorem eX10_growsOf_44 : eb_cv mX10_growsOf 44 47 mX10_layBy 1 := ⟨134, (RX10, TX10, 29), by decide +kernel, rfl, wd_866, wd_868, wd_29, by decide, rfl, rfl, okX10_layBy⟩
theorem eX10_growsOf_47 : eb_at mX10_growsOf 47 48 (.aload_n 0) 1 := ⟨by decide +kernel, rfl⟩
theorem eX10_growsOf_48 : eb_cv mX10_growsOf 48 51 mX10_breakLines 0 := ⟨143, (RX10, TX10, 29), by decide +kernel, rfl, wd_885, wd_887, wd_32, by decide, rfl, rfl, okX10_breakLines⟩
theorem eX10_growsOf_51 : eb_at mX10_growsOf 51 52 (.aload_n 0) 1 := ⟨by decide +kernel, rfl⟩
theorem eX10_growsOf_52 : eb_cv mX10_growsOf 52 55 mX10_beginSet 0 := ⟨149, (RX10, TX10, 29), by decide +kernel, rfl, wd_893, wd_895, wd_34, by decide, rfl, rfl, okX10_beginSet⟩
theorem eX10_growsOf_55 : eb_at mX10_growsOf 55 56 (.lload_n 2) 1 := ⟨by decide +kernel, rfl⟩
theorem eX10_growsOf_56 : eb_at mX10_growsOf 56 57 (.lcmp) 1 := ⟨by decide +kernel, rfl⟩
theorem eX10_growsOf_57 : eb_at mX10_growsOf 57 60 (.ifCond .ne 7) 3 := ⟨by decide +kernel, rfl⟩
theorem eX10_growsOf_60 : eb_at mX10_growsOf 60 61 (.iconst (-1)) 1 := ⟨by decide +kernel, rfl⟩
theorem eX10_growsOf_61 : eb_at mX10_growsOf 61 64 (.goto 5) 3 := ⟨by decide +kernel, rfl⟩
theorem eX10_growsOf_64 : eb_at mX10_growsOf 64 66 (.iload 5) 2 := ⟨by decide +kernel, rfl⟩
theorem eX10_growsOf_66 : eb_at mX10_growsOf 66 68 (.istore 4) 2 := ⟨by decide +kernel, rfl⟩
theorem eX10_growsOf_68 : eb_at mX10_growsOf 68 71 (.iinc 5 1) 3 := ⟨by decide +kernel, rfl⟩
theorem eX10_growsOf_71 : eb_at mX10_growsOf 71 74 (.goto (-56)) 3 := ⟨by decide +kernel, rfl⟩
theorem eX10_growsOf_74 : eb_at mX10_growsOf 74 76 (.iload 4) 2 := ⟨by decide +kernel, rfl⟩
theorem eX10_growsOf_76 : eb_at mX10_growsOf 76 77 (.ireturn) 1 := ⟨by decide +kernel, rfl⟩
theorem eX10_in_0 : eb_at mX10_in 0 1 (.lload_n 0) 1 := ⟨by decide +kernel, rfl⟩
theorem eX10_in_1 : eb_at mX10_in 1 2 (.lload_n 2) 1 := ⟨by decide +kernel, rfl⟩
theorem eX10_in_2 : eb_at mX10_in 2 3 (.lcmp) 1 := ⟨by decide +kernel, rfl⟩
theorem eX10_in_3 : eb_at mX10_in 3 6 (.ifCond .lt 14) 3 := ⟨by decide +kernel, rfl⟩
theorem eX10_in_6 : eb_at mX10_in 6 7 (.lload_n 0) 1 := ⟨by decide +kernel, rfl⟩
theorem eX10_in_7 : eb_at mX10_in 7 9 (.lload 4) 2 := ⟨by decide +kernel, rfl⟩
theorem eX10_in_9 : eb_at mX10_in 9 10 (.lcmp) 1 := ⟨by decide +kernel, rfl⟩
theorem eX10_in_10 : eb_at mX10_in 10 13 (.ifCond .gt 7) 3 := ⟨by decide +kernel, rfl⟩
theorem eX10_in_13 : eb_at mX10_in 13 14 (.iconst 1) 1 := ⟨by decide +kernel, rfl⟩
theorem eX10_in_14 : eb_at mX10_in 14 17 (.goto 4) 3 := ⟨by decide +kernel, rfl⟩
theorem eX10_in_17 : eb_at mX10_in 17 18 (.iconst 0) 1 := ⟨by decide +kernel, rfl⟩
theorem eX10_in_18 : eb_at mX10_in 18 19 (.ireturn) 1 := ⟨by decide +kernel, rfl⟩
end
section
theorem eX10_init_0 : eb_at mX10_init 0 1 (.aload_n 0) 1 := ⟨by decide +kernel, rfl⟩
theorem eX10_init_1 : eb_at mX10_init 1 4 (.invokespecial 1) 3 := ⟨by decide +kernel, rfl⟩
theorem eX10_init_4 : eb_at mX10_init 4 5 (.aload_n 0) 1 := ⟨by decide +kernel, rfl⟩
theorem eX10_init_5 : eb_at mX10_init 5 8 (.sipush 525) 3 := ⟨by decide +kernel, rfl⟩
theorem eX10_init_8 : eb_at mX10_init 8 10 (.newarray .int) 2 := ⟨by decide +kernel, rfl⟩
theorem eX10_init_10 : eb_pf mX10_init 10 13 9 0 true (.array .int) := ⟨7, (RX10, TX10, 29), by decide +kernel, rfl, rfl, by decide, wd_704, rfl, by decide +kernel, fun _ => ⟨rfl, rfl⟩⟩
theorem eX10_init_13 : eb_at mX10_init 13 14 (.aload_n 0) 1 := ⟨by decide +kernel, rfl⟩
theorem eX10_init_14 : eb_at mX10_init 14 17 (.sipush 8400) 3 := ⟨by decide +kernel, rfl⟩
theorem eX10_init_17 : eb_at mX10_init 17 19 (.newarray .int) 2 := ⟨by decide +kernel, rfl⟩
theorem eX10_init_19 : eb_pf mX10_init 19 22 9 1 true (.array .int) := ⟨13, (RX10, TX10, 29), by decide +kernel, rfl, rfl, by decide, wd_705, rfl, by decide +kernel, fun _ => ⟨rfl, rfl⟩⟩
theorem eX10_init_22 : eb_at mX10_init 22 23 (.aload_n 0) 1 := ⟨by decide +kernel, rfl⟩
theorem eX10_init_23 : eb_at mX10_init 23 26 (.sipush 240) 3 := ⟨by decide +kernel, rfl⟩
theorem eX10_init_26 : eb_at mX10_init 26 28 (.newarray .int) 2 := ⟨by decide +kernel, rfl⟩
theorem eX10_init_28 : eb_pf mX10_init 28 31 9 4 true (.array .int) := ⟨16, (RX10, TX10, 29), by decide +kernel, rfl, rfl, by decide, wd_708, rfl, by decide +kernel, fun _ => ⟨rfl, rfl⟩⟩
theorem eX10_init_31 : eb_at mX10_init 31 32 (.aload_n 0) 1 := ⟨by decide +kernel, rfl⟩
theorem eX10_init_32 : eb_at mX10_init 32 34 (.bipush 40) 2 := ⟨by decide +kernel, rfl⟩
theorem eX10_init_34 : eb_at mX10_init 34 36 (.newarray .int) 2 := ⟨by decide +kernel, rfl⟩
theorem eX10_init_36 : eb_pf mX10_init 36 39 9 7 true (.array .int) := ⟨19, (RX10, TX10, 29), by decide +kernel, rfl, rfl, by decide, wd_711, rfl, by decide +kernel, fun _ => ⟨rfl, rfl⟩⟩
theorem eX10_init_39 : eb_at mX10_init 39 40 (.aload_n 0) 1 := ⟨by decide +kernel, rfl⟩
theorem eX10_init_40 : eb_at mX10_init 40 43 (.sipush 480) 3 := ⟨by decide +kernel, rfl⟩
theorem eX10_init_43 : eb_at mX10_init 43 45 (.newarray .int) 2 := ⟨by decide +kernel, rfl⟩
theorem eX10_init_45 : eb_pf mX10_init 45 48 9 8 true (.array .int) := ⟨22, (RX10, TX10, 29), by decide +kernel, rfl, rfl, by decide, wd_712, rfl, by decide +kernel, fun _ => ⟨rfl, rfl⟩⟩
theorem eX10_init_48 : eb_at mX10_init 48 49 (.aload_n 0) 1 := ⟨by decide +kernel, rfl⟩
theorem eX10_init_49 : eb_at mX10_init 49 51 (.bipush 40) 2 := ⟨by decide +kernel, rfl⟩
theorem eX10_init_51 : eb_at mX10_init 51 53 (.newarray .int) 2 := ⟨by decide +kernel, rfl⟩
theorem eX10_init_53 : eb_pf mX10_init 53 56 9 10 true (.array .int) := ⟨25, (RX10, TX10, 29), by decide +kernel, rfl, rfl, by decide, wd_714, rfl, by decide +kernel, fun _ => ⟨rfl, rfl⟩⟩
theorem eX10_init_56 : eb_at mX10_init 56 57 (.aload_n 0) 1 := ⟨by decide +kernel, rfl⟩
theorem eX10_init_57 : eb_at mX10_init 57 59 (.bipush 41) 2 := ⟨by decide +kernel, rfl⟩
theorem eX10_init_59 : eb_at mX10_init 59 61 (.newarray .int) 2 := ⟨by decide +kernel, rfl⟩
theorem eX10_init_61 : eb_pf mX10_init 61 64 9 11 true (.array .int) := ⟨28, (RX10, TX10, 29), by decide +kernel, rfl, rfl, by decide, wd_715, rfl, by decide +kernel, fun _ => ⟨rfl, rfl⟩⟩
theorem eX10_init_64 : eb_at mX10_init 64 65 (.aload_n 0) 1 := ⟨by decide +kernel, rfl⟩
theorem eX10_init_65 : eb_at mX10_init 65 68 (.sipush 1681) 3 := ⟨by decide +kernel, rfl⟩
theorem eX10_init_68 : eb_at mX10_init 68 70 (.newarray .int) 2 := ⟨by decide +kernel, rfl⟩
theorem eX10_init_70 : eb_pf mX10_init 70 73 9 12 true (.array .int) := ⟨31, (RX10, TX10, 29), by decide +kernel, rfl, rfl, by decide, wd_716, rfl, by decide +kernel, fun _ => ⟨rfl, rfl⟩⟩
theorem eX10_init_73 : eb_at mX10_init 73 74 (.aload_n 0) 1 := ⟨by decide +kernel, rfl⟩
theorem eX10_init_74 : eb_at mX10_init 74 76 (.bipush 41) 2 := ⟨by decide +kernel, rfl⟩
theorem eX10_init_76 : eb_at mX10_init 76 78 (.newarray .int) 2 := ⟨by decide +kernel, rfl⟩
theorem eX10_init_78 : eb_pf mX10_init 78 81 9 13 true (.array .int) := ⟨34, (RX10, TX10, 29), by decide +kernel, rfl, rfl, by decide, wd_717, rfl, by decide +kernel, fun _ => ⟨rfl, rfl⟩⟩
theorem eX10_init_81 : eb_at mX10_init 81 82 (.aload_n 0) 1 := ⟨by decide +kernel, rfl⟩
theorem eX10_init_82 : eb_at mX10_init 82 84 (.bipush 41) 2 := ⟨by decide +kernel, rfl⟩
theorem eX10_init_84 : eb_at mX10_init 84 86 (.newarray .int) 2 := ⟨by decide +kernel, rfl⟩
theorem eX10_init_86 : eb_pf mX10_init 86 89 9 14 true (.array .int) := ⟨37, (RX10, TX10, 29), by decide +kernel, rfl, rfl, by decide, wd_718, rfl, by decide +kernel, fun _ => ⟨rfl, rfl⟩⟩
theorem eX10_init_89 : eb_at mX10_init 89 90 (.aload_n 0) 1 := ⟨by decide +kernel, rfl⟩
theorem eX10_init_90 : eb_at mX10_init 90 92 (.bipush 42) 2 := ⟨by decide +kernel, rfl⟩
theorem eX10_init_92 : eb_at mX10_init 92 94 (.newarray .int) 2 := ⟨by decide +kernel, rfl⟩
theorem eX10_init_94 : eb_pf mX10_init 94 97 9 15 true (.array .int) := ⟨40, (RX10, TX10, 29), by decide +kernel, rfl, rfl, by decide, wd_719, rfl, by decide +kernel, fun _ => ⟨rfl, rfl⟩⟩
theorem eX10_init_97 : eb_at mX10_init 97 98 (.aload_n 0) 1 := ⟨by decide +kernel, rfl⟩
theorem eX10_init_98 : eb_at mX10_init 98 100 (.bipush 41) 2 := ⟨by decide +kernel, rfl⟩
theorem eX10_init_100 : eb_at mX10_init 100 102 (.newarray .int) 2 := ⟨by decide +kernel, rfl⟩
theorem eX10_init_102 : eb_pf mX10_init 102 105 9 17 true (.array .int) := ⟨43, (RX10, TX10, 29), by decide +kernel, rfl, rfl, by decide, wd_721, rfl, by decide +kernel, fun _ => ⟨rfl, rfl⟩⟩
theorem eX10_init_105 : eb_at mX10_init 105 106 (.aload_n 0) 1 := ⟨by decide +kernel, rfl⟩
theorem eX10_init_106 : eb_at mX10_init 106 108 (.bipush 12) 2 := ⟨by decide +kernel, rfl⟩
theorem eX10_init_108 : eb_at mX10_init 108 110 (.newarray .int) 2 := ⟨by decide +kernel, rfl⟩
theorem eX10_init_110 : eb_pf mX10_init 110 113 9 18 true (.array .int) := ⟨46, (RX10, TX10, 29), by decide +kernel, rfl, rfl, by decide, wd_722, rfl, by decide +kernel, fun _ => ⟨rfl, rfl⟩⟩
theorem eX10_init_113 : eb_at mX10_init 113 114 (.aload_n 0) 1 := ⟨by decide +kernel, rfl⟩
theorem eX10_init_114 : eb_at mX10_init 114 116 (.bipush 40) 2 := ⟨by decide +kernel, rfl⟩
theorem eX10_init_116 : eb_at mX10_init 116 118 (.newarray .int) 2 := ⟨by decide +kernel, rfl⟩
theorem eX10_init_118 : eb_pf mX10_init 118 121 9 20 true (.array .int) := ⟨49, (RX10, TX10, 29), by decide +kernel, rfl, rfl, by decide, wd_724, rfl, by decide +kernel, fun _ => ⟨rfl, rfl⟩⟩
theorem eX10_init_121 : eb_at mX10_init 121 122 (.aload_n 0) 1 := ⟨by decide +kernel, rfl⟩
theorem eX10_init_122 : eb_at mX10_init 122 125 (.sipush 201) 3 := ⟨by decide +kernel, rfl⟩
theorem eX10_init_125 : eb_at mX10_init 125 127 (.newarray .long) 2 := ⟨by decide +kernel, rfl⟩
theorem eX10_init_127 : eb_pf mX10_init 127 130 9 22 true (.array .long) := ⟨52, (RX10, TX10, 29), by decide +kernel, rfl, rfl, by decide, wd_726, rfl, by decide +kernel, fun _ => ⟨rfl, rfl⟩⟩
theorem eX10_init_130 : eb_at mX10_init 130 131 (.aload_n 0) 1 := ⟨by decide +kernel, rfl⟩
theorem eX10_init_131 : eb_at mX10_init 131 134 (.sipush 201) 3 := ⟨by decide +kernel, rfl⟩
theorem eX10_init_134 : eb_at mX10_init 134 136 (.newarray .boolean) 2 := ⟨by decide +kernel, rfl⟩
theorem eX10_init_136 : eb_pf mX10_init 136 139 9 23 true (.array .boolean) := ⟨56, (RX10, TX10, 29), by decide +kernel, rfl, rfl, by decide, wd_727, rfl, by decide +kernel, fun _ => ⟨rfl, rfl⟩⟩
theorem eX10_init_139 : eb_at mX10_init 139 140 (.aload_n 0) 1 := ⟨by decide +kernel, rfl⟩
theorem eX10_init_140 : eb_at mX10_init 140 143 (.sipush 1052) 3 := ⟨by decide +kernel, rfl⟩
theorem eX10_init_143 : eb_at mX10_init 143 145 (.newarray .int) 2 := ⟨by decide +kernel, rfl⟩
theorem eX10_init_145 : eb_pf mX10_init 145 148 9 27 true (.array .int) := ⟨60, (RX10, TX10, 29), by decide +kernel, rfl, rfl, by decide, wd_731, rfl, by decide +kernel, fun _ => ⟨rfl, rfl⟩⟩
theorem eX10_init_148 : eb_at mX10_init 148 149 (.aload_n 0) 1 := ⟨by decide +kernel, rfl⟩
theorem eX10_init_149 : eb_at mX10_init 149 150 (.iconst 2) 1 := ⟨by decide +kernel, rfl⟩
theorem eX10_init_150 : eb_at mX10_init 150 152 (.newarray .boolean) 2 := ⟨by decide +kernel, rfl⟩
theorem eX10_init_152 : eb_pf mX10_init 152 155 9 28 true (.array .boolean) := ⟨63, (RX10, TX10, 29), by decide +kernel, rfl, rfl, by decide, wd_732, rfl, by decide +kernel, fun _ => ⟨rfl, rfl⟩⟩
theorem eX10_init_155 : eb_at mX10_init 155 156 (.aload_n 0) 1 := ⟨by decide +kernel, rfl⟩
theorem eX10_init_156 : eb_gf mX10_init 156 159 9 0 := ⟨7, (RX10, TX10, 29), by decide +kernel, rfl, rfl, by decide, wd_704⟩
theorem eX10_init_159 : eb_at mX10_init 159 160 (.iconst 1) 1 := ⟨by decide +kernel, rfl⟩
theorem eX10_init_160 : eb_at mX10_init 160 162 (.bipush 30) 2 := ⟨by decide +kernel, rfl⟩
theorem eX10_init_162 : eb_at mX10_init 162 163 (.iastore) 1 := ⟨by decide +kernel, rfl⟩
theorem eX10_init_163 : eb_at mX10_init 163 164 (.aload_n 0) 1 := ⟨by decide +kernel, rfl⟩
theorem eX10_init_164 : eb_at mX10_init 164 165 (.iconst (-1)) 1 := ⟨by decide +kernel, rfl⟩
theorem eX10_init_165 : eb_pf mX10_init 165 168 9 6 false .int := ⟨66, (RX10, TX10, 29), by decide +kernel, rfl, rfl, by decide, wd_710, rfl, by decide +kernel, fun h => absurd h (by decide)⟩
theorem eX10_init_168 : eb_at mX10_init 168 169 (.return_) 1 := ⟨by decide +kernel, rfl⟩
theorem eX10_insert_0 : eb_at mX10_insert 0 1 (.aload_n 0) 1 := ⟨by decide +kernel, rfl⟩
theorem eX10_insert_1 : eb_at mX10_insert 1 2 (.iload_n 1) 1 := ⟨by decide +kernel, rfl⟩
theorem eX10_insert_2 : eb_cv mX10_insert 2 5 mX10_isEnd 1 := ⟨169, (RX10, TX10, 29), by decide +kernel, rfl, wd_901, wd_903, wd_35, by decide, rfl, rfl, okX10_isEnd⟩
theorem eX10_insert_5 : eb_at mX10_insert 5 8 (.ifCond .ne 6) 3 := ⟨by decide +kernel, rfl⟩
theorem eX10_insert_8 : eb_at mX10_insert 8 10 (.ldc 157) 2 := ⟨by decide +kernel, rfl⟩
theorem eX10_insert_10 : eb_at mX10_insert 10 11 (.ireturn) 1 := ⟨by decide +kernel, rfl⟩
theorem eX10_insert_11 : eb_at mX10_insert 11 12 (.aload_n 0) 1 := ⟨by decide +kernel, rfl⟩
theorem eX10_insert_12 : eb_cv mX10_insert 12 15 mX10_readOne 0 := ⟨178, (RX10, TX10, 29), by decide +kernel, rfl, wd_926, wd_928, wd_38, by decide, rfl, rfl, okX10_readOne⟩
theorem eX10_insert_15 : eb_at mX10_insert 15 16 (.istore_n 2) 1 := ⟨by decide +kernel, rfl⟩
theorem eX10_insert_16 : eb_at mX10_insert 16 17 (.iload_n 2) 1 := ⟨by decide +kernel, rfl⟩
theorem eX10_insert_17 : eb_at mX10_insert 17 20 (.ifCond .ge 5) 3 := ⟨by decide +kernel, rfl⟩
theorem eX10_insert_20 : eb_at mX10_insert 20 21 (.iload_n 2) 1 := ⟨by decide +kernel, rfl⟩
theorem eX10_insert_21 : eb_at mX10_insert 21 22 (.ireturn) 1 := ⟨by decide +kernel, rfl⟩
theorem eX10_insert_22 : eb_at mX10_insert 22 23 (.aload_n 0) 1 := ⟨by decide +kernel, rfl⟩
theorem eX10_insert_23 : eb_gf mX10_insert 23 26 9 0 := ⟨7, (RX10, TX10, 29), by decide +kernel, rfl, rfl, by decide, wd_704⟩
theorem eX10_insert_26 : eb_at mX10_insert 26 27 (.iconst 0) 1 := ⟨by decide +kernel, rfl⟩
theorem eX10_insert_27 : eb_at mX10_insert 27 28 (.iaload) 1 := ⟨by decide +kernel, rfl⟩
theorem eX10_insert_28 : eb_at mX10_insert 28 30 (.bipush 40) 2 := ⟨by decide +kernel, rfl⟩
theorem eX10_insert_30 : eb_at mX10_insert 30 33 (.if_icmp .ne 6) 3 := ⟨by decide +kernel, rfl⟩
theorem eX10_insert_33 : eb_at mX10_insert 33 35 (.ldc 80) 2 := ⟨by decide +kernel, rfl⟩
theorem eX10_insert_35 : eb_at mX10_insert 35 36 (.ireturn) 1 := ⟨by decide +kernel, rfl⟩
theorem eX10_insert_36 : eb_at mX10_insert 36 37 (.aload_n 0) 1 := ⟨by decide +kernel, rfl⟩
theorem eX10_insert_37 : eb_cv mX10_insert 37 40 mX10_note 0 := ⟨99, (RX10, TX10, 29), by decide +kernel, rfl, wd_817, wd_819, wd_20, by decide, rfl, rfl, okX10_note⟩
theorem eX10_insert_40 : eb_at mX10_insert 40 41 (.aload_n 0) 1 := ⟨by decide +kernel, rfl⟩
theorem eX10_insert_41 : eb_at mX10_insert 41 42 (.iload_n 1) 1 := ⟨by decide +kernel, rfl⟩
theorem eX10_insert_42 : eb_cv mX10_insert 42 45 mX10_putIn 1 := ⟨184, (RX10, TX10, 29), by decide +kernel, rfl, wd_935, wd_937, wd_39, by decide, rfl, rfl, okX10_putIn⟩
theorem eX10_insert_45 : eb_at mX10_insert 45 46 (.aload_n 0) 1 := ⟨by decide +kernel, rfl⟩
theorem eX10_insert_46 : eb_at mX10_insert 46 47 (.iload_n 1) 1 := ⟨by decide +kernel, rfl⟩
theorem eX10_insert_47 : eb_cv mX10_insert 47 50 mX10_wordWidth 1 := ⟨123, (RX10, TX10, 29), by decide +kernel, rfl, wd_843, wd_845, wd_24, by decide, rfl, rfl, okX10_wordWidth⟩
theorem eX10_insert_50 : eb_at mX10_insert 50 51 (.ireturn) 1 := ⟨by decide +kernel, rfl⟩
theorem eX10_isEnd_0 : eb_at mX10_isEnd 0 1 (.iload_n 1) 1 := ⟨by decide +kernel, rfl⟩
theorem eX10_isEnd_1 : eb_at mX10_isEnd 1 2 (.i2l) 1 := ⟨by decide +kernel, rfl⟩
theorem eX10_isEnd_2 : eb_at mX10_isEnd 2 3 (.lconst 0) 1 := ⟨by decide +kernel, rfl⟩
theorem eX10_isEnd_3 : eb_at mX10_isEnd 3 4 (.aload_n 0) 1 := ⟨by decide +kernel, rfl⟩
theorem eX10_isEnd_4 : eb_gf mX10_isEnd 4 7 9 0 := ⟨7, (RX10, TX10, 29), by decide +kernel, rfl, rfl, by decide, wd_704⟩
theorem eX10_isEnd_7 : eb_at mX10_isEnd 7 8 (.iconst 0) 1 := ⟨by decide +kernel, rfl⟩
theorem eX10_isEnd_8 : eb_at mX10_isEnd 8 9 (.iaload) 1 := ⟨by decide +kernel, rfl⟩
theorem eX10_isEnd_9 : eb_at mX10_isEnd 9 10 (.i2l) 1 := ⟨by decide +kernel, rfl⟩
theorem eX10_isEnd_10 : eb_cs mX10_isEnd 10 13 mX10_in 3 := ⟨70, by decide +kernel, rfl, wd_798, wd_799, by decide, okX10_in⟩
theorem eX10_isEnd_13 : eb_at mX10_isEnd 13 14 (.ireturn) 1 := ⟨by decide +kernel, rfl⟩
theorem eX10_isWord_0 : eb_at mX10_isWord 0 1 (.iload_n 1) 1 := ⟨by decide +kernel, rfl⟩
theorem eX10_isWord_1 : eb_at mX10_isWord 1 2 (.i2l) 1 := ⟨by decide +kernel, rfl⟩
theorem eX10_isWord_2 : eb_at mX10_isWord 2 3 (.lconst 0) 1 := ⟨by decide +kernel, rfl⟩
theorem eX10_isWord_3 : eb_at mX10_isWord 3 4 (.aload_n 0) 1 := ⟨by decide +kernel, rfl⟩
theorem eX10_isWord_4 : eb_gf mX10_isWord 4 7 9 0 := ⟨7, (RX10, TX10, 29), by decide +kernel, rfl, rfl, by decide, wd_704⟩
theorem eX10_isWord_7 : eb_at mX10_isWord 7 8 (.iconst 0) 1 := ⟨by decide +kernel, rfl⟩
theorem eX10_isWord_8 : eb_at mX10_isWord 8 9 (.iaload) 1 := ⟨by decide +kernel, rfl⟩
theorem eX10_isWord_9 : eb_at mX10_isWord 9 10 (.iconst 1) 1 := ⟨by decide +kernel, rfl⟩
theorem eX10_isWord_10 : eb_at mX10_isWord 10 11 (.isub) 1 := ⟨by decide +kernel, rfl⟩
theorem eX10_isWord_11 : eb_at mX10_isWord 11 12 (.i2l) 1 := ⟨by decide +kernel, rfl⟩
theorem eX10_isWord_12 : eb_cs mX10_isWord 12 15 mX10_in 3 := ⟨70, by decide +kernel, rfl, wd_798, wd_799, by decide, okX10_in⟩
theorem eX10_isWord_15 : eb_at mX10_isWord 15 16 (.ireturn) 1 := ⟨by decide +kernel, rfl⟩
theorem eX10_keep_0 : eb_at mX10_keep 0 1 (.iload_n 1) 1 := ⟨by decide +kernel, rfl⟩
theorem eX10_keep_1 : eb_at mX10_keep 1 2 (.i2l) 1 := ⟨by decide +kernel, rfl⟩
theorem eX10_keep_2 : eb_at mX10_keep 2 3 (.lconst 0) 1 := ⟨by decide +kernel, rfl⟩
theorem eX10_keep_3 : eb_at mX10_keep 3 4 (.lconst 1) 1 := ⟨by decide +kernel, rfl⟩
theorem eX10_keep_4 : eb_cs mX10_keep 4 7 mX10_in 3 := ⟨70, by decide +kernel, rfl, wd_798, wd_799, by decide, okX10_in⟩
theorem eX10_keep_7 : eb_at mX10_keep 7 10 (.ifCond .ne 6) 3 := ⟨by decide +kernel, rfl⟩
theorem eX10_keep_10 : eb_at mX10_keep 10 12 (.ldc 157) 2 := ⟨by decide +kernel, rfl⟩
theorem eX10_keep_12 : eb_at mX10_keep 12 13 (.ireturn) 1 := ⟨by decide +kernel, rfl⟩
theorem eX10_keep_13 : eb_at mX10_keep 13 14 (.iconst 0) 1 := ⟨by decide +kernel, rfl⟩
theorem eX10_keep_14 : eb_at mX10_keep 14 15 (.istore_n 2) 1 := ⟨by decide +kernel, rfl⟩
theorem eX10_keep_15 : eb_at mX10_keep 15 16 (.iload_n 2) 1 := ⟨by decide +kernel, rfl⟩
theorem eX10_keep_16 : eb_at mX10_keep 16 19 (.sipush 525) 3 := ⟨by decide +kernel, rfl⟩
theorem eX10_keep_19 : eb_at mX10_keep 19 22 (.if_icmp .ge 27) 3 := ⟨by decide +kernel, rfl⟩
theorem eX10_keep_22 : eb_at mX10_keep 22 23 (.aload_n 0) 1 := ⟨by decide +kernel, rfl⟩
theorem eX10_keep_23 : eb_gf mX10_keep 23 26 9 27 := ⟨60, (RX10, TX10, 29), by decide +kernel, rfl, rfl, by decide, wd_731⟩
theorem eX10_keep_26 : eb_at mX10_keep 26 29 (.sipush 526) 3 := ⟨by decide +kernel, rfl⟩
theorem eX10_keep_29 : eb_at mX10_keep 29 30 (.iload_n 1) 1 := ⟨by decide +kernel, rfl⟩
theorem eX10_keep_30 : eb_at mX10_keep 30 31 (.imul) 1 := ⟨by decide +kernel, rfl⟩
theorem eX10_keep_31 : eb_at mX10_keep 31 32 (.iload_n 2) 1 := ⟨by decide +kernel, rfl⟩
theorem eX10_keep_32 : eb_at mX10_keep 32 33 (.iadd) 1 := ⟨by decide +kernel, rfl⟩
theorem eX10_keep_33 : eb_at mX10_keep 33 34 (.aload_n 0) 1 := ⟨by decide +kernel, rfl⟩
theorem eX10_keep_34 : eb_gf mX10_keep 34 37 9 0 := ⟨7, (RX10, TX10, 29), by decide +kernel, rfl, rfl, by decide, wd_704⟩
theorem eX10_keep_37 : eb_at mX10_keep 37 38 (.iload_n 2) 1 := ⟨by decide +kernel, rfl⟩
theorem eX10_keep_38 : eb_at mX10_keep 38 39 (.iaload) 1 := ⟨by decide +kernel, rfl⟩
theorem eX10_keep_39 : eb_at mX10_keep 39 40 (.iastore) 1 := ⟨by decide +kernel, rfl⟩
theorem eX10_keep_40 : eb_at mX10_keep 40 43 (.iinc 2 1) 3 := ⟨by decide +kernel, rfl⟩
theorem eX10_keep_43 : eb_at mX10_keep 43 46 (.goto (-28)) 3 := ⟨by decide +kernel, rfl⟩
theorem eX10_keep_46 : eb_at mX10_keep 46 47 (.aload_n 0) 1 := ⟨by decide +kernel, rfl⟩
theorem eX10_keep_47 : eb_gf mX10_keep 47 50 9 27 := ⟨60, (RX10, TX10, 29), by decide +kernel, rfl, rfl, by decide, wd_731⟩
theorem eX10_keep_50 : eb_at mX10_keep 50 53 (.sipush 526) 3 := ⟨by decide +kernel, rfl⟩
theorem eX10_keep_53 : eb_at mX10_keep 53 54 (.iload_n 1) 1 := ⟨by decide +kernel, rfl⟩
theorem eX10_keep_54 : eb_at mX10_keep 54 55 (.imul) 1 := ⟨by decide +kernel, rfl⟩
theorem eX10_keep_55 : eb_at mX10_keep 55 58 (.sipush 525) 3 := ⟨by decide +kernel, rfl⟩
theorem eX10_keep_58 : eb_at mX10_keep 58 59 (.iadd) 1 := ⟨by decide +kernel, rfl⟩
theorem eX10_keep_59 : eb_at mX10_keep 59 60 (.aload_n 0) 1 := ⟨by decide +kernel, rfl⟩
theorem eX10_keep_60 : eb_gf mX10_keep 60 63 9 3 := ⟨194, (RX10, TX10, 29), by decide +kernel, rfl, rfl, by decide, wd_707⟩
theorem eX10_keep_63 : eb_at mX10_keep 63 64 (.iastore) 1 := ⟨by decide +kernel, rfl⟩
theorem eX10_keep_64 : eb_at mX10_keep 64 65 (.aload_n 0) 1 := ⟨by decide +kernel, rfl⟩
theorem eX10_keep_65 : eb_gf mX10_keep 65 68 9 28 := ⟨63, (RX10, TX10, 29), by decide +kernel, rfl, rfl, by decide, wd_732⟩
theorem eX10_keep_68 : eb_at mX10_keep 68 69 (.iload_n 1) 1 := ⟨by decide +kernel, rfl⟩
theorem eX10_keep_69 : eb_at mX10_keep 69 70 (.iconst 1) 1 := ⟨by decide +kernel, rfl⟩
theorem eX10_keep_70 : eb_at mX10_keep 70 71 (.bastore) 1 := ⟨by decide +kernel, rfl⟩
theorem eX10_keep_71 : eb_at mX10_keep 71 72 (.aload_n 0) 1 := ⟨by decide +kernel, rfl⟩
theorem eX10_keep_72 : eb_at mX10_keep 72 73 (.iconst 0) 1 := ⟨by decide +kernel, rfl⟩
theorem eX10_keep_73 : eb_pf mX10_keep 73 76 9 2 false .int := ⟨92, (RX10, TX10, 29), by decide +kernel, rfl, rfl, by decide, wd_706, rfl, by decide +kernel, fun h => absurd h (by decide)⟩
theorem eX10_keep_76 : eb_at mX10_keep 76 77 (.iconst 1) 1 := ⟨by decide +kernel, rfl⟩
theorem eX10_keep_77 : eb_at mX10_keep 77 78 (.ireturn) 1 := ⟨by decide +kernel, rfl⟩
theorem eX10_known_0 : eb_at mX10_known 0 1 (.aload_n 0) 1 := ⟨by decide +kernel, rfl⟩
theorem eX10_known_1 : eb_at mX10_known 1 2 (.iload_n 1) 1 := ⟨by decide +kernel, rfl⟩
theorem eX10_known_2 : eb_cv mX10_known 2 5 mX10_isEnd 1 := ⟨169, (RX10, TX10, 29), by decide +kernel, rfl, wd_901, wd_903, wd_35, by decide, rfl, rfl, okX10_isEnd⟩
theorem eX10_known_5 : eb_at mX10_known 5 8 (.ifCond .eq 16) 3 := ⟨by decide +kernel, rfl⟩
theorem eX10_known_8 : eb_at mX10_known 8 9 (.aload_n 0) 1 := ⟨by decide +kernel, rfl⟩
theorem eX10_known_9 : eb_at mX10_known 9 10 (.iload_n 2) 1 := ⟨by decide +kernel, rfl⟩
theorem eX10_known_10 : eb_cv mX10_known 10 13 mX10_isEnd 1 := ⟨169, (RX10, TX10, 29), by decide +kernel, rfl, wd_901, wd_903, wd_35, by decide, rfl, rfl, okX10_isEnd⟩
theorem eX10_known_13 : eb_at mX10_known 13 16 (.ifCond .eq 8) 3 := ⟨by decide +kernel, rfl⟩
theorem eX10_known_16 : eb_at mX10_known 16 17 (.iload_n 2) 1 := ⟨by decide +kernel, rfl⟩
theorem eX10_known_17 : eb_at mX10_known 17 18 (.iload_n 1) 1 := ⟨by decide +kernel, rfl⟩
theorem eX10_known_18 : eb_at mX10_known 18 21 (.if_icmp .lt 6) 3 := ⟨by decide +kernel, rfl⟩
theorem eX10_known_21 : eb_at mX10_known 21 23 (.ldc 157) 2 := ⟨by decide +kernel, rfl⟩
theorem eX10_known_23 : eb_at mX10_known 23 24 (.ireturn) 1 := ⟨by decide +kernel, rfl⟩
theorem eX10_known_24 : eb_at mX10_known 24 25 (.aload_n 0) 1 := ⟨by decide +kernel, rfl⟩
theorem eX10_known_25 : eb_cv mX10_known 25 28 mX10_lay 0 := ⟨137, (RX10, TX10, 29), by decide +kernel, rfl, wd_858, wd_860, wd_27, by decide, rfl, rfl, okX10_lay⟩
theorem eX10_known_28 : eb_at mX10_known 28 29 (.aload_n 0) 1 := ⟨by decide +kernel, rfl⟩
theorem eX10_known_29 : eb_at mX10_known 29 30 (.iload_n 1) 1 := ⟨by decide +kernel, rfl⟩
theorem eX10_known_30 : eb_at mX10_known 30 31 (.iload_n 2) 1 := ⟨by decide +kernel, rfl⟩
theorem eX10_known_31 : eb_cv mX10_known 31 34 mX10_ownerBy 2 := ⟨166, (RX10, TX10, 29), by decide +kernel, rfl, wd_910, wd_912, wd_37, by decide, rfl, rfl, okX10_ownerBy⟩
theorem eX10_known_34 : eb_at mX10_known 34 35 (.ireturn) 1 := ⟨by decide +kernel, rfl⟩
theorem eX10_lay_0 : eb_at mX10_lay 0 1 (.aload_n 0) 1 := ⟨by decide +kernel, rfl⟩
theorem eX10_lay_1 : eb_cv mX10_lay 1 4 mX10_measureWords 0 := ⟨131, (RX10, TX10, 29), by decide +kernel, rfl, wd_862, wd_864, wd_28, by decide, rfl, rfl, okX10_measureWords⟩
theorem eX10_lay_4 : eb_at mX10_lay 4 5 (.aload_n 0) 1 := ⟨by decide +kernel, rfl⟩
theorem eX10_lay_5 : eb_at mX10_lay 5 6 (.aload_n 0) 1 := ⟨by decide +kernel, rfl⟩
theorem eX10_lay_6 : eb_gf mX10_lay 6 9 9 0 := ⟨7, (RX10, TX10, 29), by decide +kernel, rfl, rfl, by decide, wd_704⟩
theorem eX10_lay_9 : eb_at mX10_lay 9 10 (.iconst 1) 1 := ⟨by decide +kernel, rfl⟩
theorem eX10_lay_10 : eb_at mX10_lay 10 11 (.iaload) 1 := ⟨by decide +kernel, rfl⟩
theorem eX10_lay_11 : eb_cv mX10_lay 11 14 mX10_layBy 1 := ⟨134, (RX10, TX10, 29), by decide +kernel, rfl, wd_866, wd_868, wd_29, by decide, rfl, rfl, okX10_layBy⟩
theorem eX10_lay_14 : eb_at mX10_lay 14 15 (.return_) 1 := ⟨by decide +kernel, rfl⟩
theorem eX10_layBy_0 : eb_at mX10_layBy 0 1 (.aload_n 0) 1 := ⟨by decide +kernel, rfl⟩
theorem eX10_layBy_1 : eb_gf mX10_layBy 1 4 9 0 := ⟨7, (RX10, TX10, 29), by decide +kernel, rfl, rfl, by decide, wd_704⟩
theorem eX10_layBy_4 : eb_at mX10_layBy 4 5 (.iconst 0) 1 := ⟨by decide +kernel, rfl⟩
theorem eX10_layBy_5 : eb_at mX10_layBy 5 6 (.iaload) 1 := ⟨by decide +kernel, rfl⟩
theorem eX10_layBy_6 : eb_at mX10_layBy 6 7 (.istore_n 2) 1 := ⟨by decide +kernel, rfl⟩
theorem eX10_layBy_7 : eb_at mX10_layBy 7 8 (.aload_n 0) 1 := ⟨by decide +kernel, rfl⟩
theorem eX10_layBy_8 : eb_gf mX10_layBy 8 11 9 11 := ⟨28, (RX10, TX10, 29), by decide +kernel, rfl, rfl, by decide, wd_715⟩
theorem eX10_layBy_11 : eb_at mX10_layBy 11 12 (.iconst 0) 1 := ⟨by decide +kernel, rfl⟩
theorem eX10_layBy_12 : eb_at mX10_layBy 12 13 (.iconst 0) 1 := ⟨by decide +kernel, rfl⟩
theorem eX10_layBy_13 : eb_at mX10_layBy 13 14 (.iastore) 1 := ⟨by decide +kernel, rfl⟩
theorem eX10_layBy_14 : eb_at mX10_layBy 14 15 (.iconst 0) 1 := ⟨by decide +kernel, rfl⟩
theorem eX10_layBy_15 : eb_at mX10_layBy 15 16 (.istore_n 3) 1 := ⟨by decide +kernel, rfl⟩
theorem eX10_layBy_16 : eb_at mX10_layBy 16 17 (.iload_n 3) 1 := ⟨by decide +kernel, rfl⟩
theorem eX10_layBy_17 : eb_at mX10_layBy 17 18 (.iload_n 2) 1 := ⟨by decide +kernel, rfl⟩
theorem eX10_layBy_18 : eb_at mX10_layBy 18 21 (.if_icmp .ge 32) 3 := ⟨by decide +kernel, rfl⟩
theorem eX10_layBy_21 : eb_at mX10_layBy 21 22 (.aload_n 0) 1 := ⟨by decide +kernel, rfl⟩
theorem eX10_layBy_22 : eb_gf mX10_layBy 22 25 9 11 := ⟨28, (RX10, TX10, 29), by decide +kernel, rfl, rfl, by decide, wd_715⟩
theorem eX10_layBy_25 : eb_at mX10_layBy 25 26 (.iload_n 3) 1 := ⟨by decide +kernel, rfl⟩
theorem eX10_layBy_26 : eb_at mX10_layBy 26 27 (.iconst 1) 1 := ⟨by decide +kernel, rfl⟩
theorem eX10_layBy_27 : eb_at mX10_layBy 27 28 (.iadd) 1 := ⟨by decide +kernel, rfl⟩
theorem eX10_layBy_28 : eb_at mX10_layBy 28 29 (.aload_n 0) 1 := ⟨by decide +kernel, rfl⟩
theorem eX10_layBy_29 : eb_gf mX10_layBy 29 32 9 11 := ⟨28, (RX10, TX10, 29), by decide +kernel, rfl, rfl, by decide, wd_715⟩
theorem eX10_layBy_32 : eb_at mX10_layBy 32 33 (.iload_n 3) 1 := ⟨by decide +kernel, rfl⟩
theorem eX10_layBy_33 : eb_at mX10_layBy 33 34 (.iaload) 1 := ⟨by decide +kernel, rfl⟩
theorem eX10_layBy_34 : eb_at mX10_layBy 34 35 (.aload_n 0) 1 := ⟨by decide +kernel, rfl⟩
theorem eX10_layBy_35 : eb_gf mX10_layBy 35 38 9 10 := ⟨25, (RX10, TX10, 29), by decide +kernel, rfl, rfl, by decide, wd_714⟩
theorem eX10_layBy_38 : eb_at mX10_layBy 38 39 (.iload_n 3) 1 := ⟨by decide +kernel, rfl⟩
theorem eX10_layBy_39 : eb_at mX10_layBy 39 40 (.iaload) 1 := ⟨by decide +kernel, rfl⟩
theorem eX10_layBy_40 : eb_at mX10_layBy 40 41 (.iadd) 1 := ⟨by decide +kernel, rfl⟩
theorem eX10_layBy_41 : eb_at mX10_layBy 41 42 (.iconst 1) 1 := ⟨by decide +kernel, rfl⟩
theorem eX10_layBy_42 : eb_at mX10_layBy 42 43 (.iadd) 1 := ⟨by decide +kernel, rfl⟩
theorem eX10_layBy_43 : eb_at mX10_layBy 43 44 (.iastore) 1 := ⟨by decide +kernel, rfl⟩
theorem eX10_layBy_44 : eb_at mX10_layBy 44 47 (.iinc 3 1) 3 := ⟨by decide +kernel, rfl⟩
theorem eX10_layBy_47 : eb_at mX10_layBy 47 50 (.goto (-31)) 3 := ⟨by decide +kernel, rfl⟩
theorem eX10_layBy_50 : eb_at mX10_layBy 50 51 (.aload_n 0) 1 := ⟨by decide +kernel, rfl⟩
theorem eX10_layBy_51 : eb_gf mX10_layBy 51 54 9 13 := ⟨34, (RX10, TX10, 29), by decide +kernel, rfl, rfl, by decide, wd_717⟩
theorem eX10_layBy_54 : eb_at mX10_layBy 54 55 (.iconst 0) 1 := ⟨by decide +kernel, rfl⟩
theorem eX10_layBy_55 : eb_at mX10_layBy 55 56 (.iconst 0) 1 := ⟨by decide +kernel, rfl⟩
theorem eX10_layBy_56 : eb_at mX10_layBy 56 57 (.iastore) 1 := ⟨by decide +kernel, rfl⟩
theorem eX10_layBy_57 : eb_at mX10_layBy 57 58 (.aload_n 0) 1 := ⟨by decide +kernel, rfl⟩
theorem eX10_layBy_58 : eb_gf mX10_layBy 58 61 9 14 := ⟨37, (RX10, TX10, 29), by decide +kernel, rfl, rfl, by decide, wd_718⟩
theorem eX10_layBy_61 : eb_at mX10_layBy 61 62 (.iconst 0) 1 := ⟨by decide +kernel, rfl⟩
theorem eX10_layBy_62 : eb_at mX10_layBy 62 63 (.iconst (-1)) 1 := ⟨by decide +kernel, rfl⟩
theorem eX10_layBy_63 : eb_at mX10_layBy 63 64 (.iastore) 1 := ⟨by decide +kernel, rfl⟩
theorem eX10_layBy_64 : eb_at mX10_layBy 64 65 (.iconst 1) 1 := ⟨by decide +kernel, rfl⟩
theorem eX10_layBy_65 : eb_at mX10_layBy 65 66 (.istore_n 3) 1 := ⟨by decide +kernel, rfl⟩
theorem eX10_layBy_66 : eb_at mX10_layBy 66 67 (.iload_n 3) 1 := ⟨by decide +kernel, rfl⟩
theorem eX10_layBy_67 : eb_at mX10_layBy 67 68 (.iload_n 2) 1 := ⟨by decide +kernel, rfl⟩
theorem eX10_layBy_68 : eb_at mX10_layBy 68 71 (.if_icmp .gt 99) 3 := ⟨by decide +kernel, rfl⟩
theorem eX10_layBy_71 : eb_at mX10_layBy 71 72 (.aload_n 0) 1 := ⟨by decide +kernel, rfl⟩
theorem eX10_layBy_72 : eb_gf mX10_layBy 72 75 9 13 := ⟨34, (RX10, TX10, 29), by decide +kernel, rfl, rfl, by decide, wd_717⟩
theorem eX10_layBy_75 : eb_at mX10_layBy 75 76 (.iload_n 3) 1 := ⟨by decide +kernel, rfl⟩
theorem eX10_layBy_76 : eb_at mX10_layBy 76 78 (.ldc 126) 2 := ⟨by decide +kernel, rfl⟩
theorem eX10_layBy_78 : eb_at mX10_layBy 78 79 (.iastore) 1 := ⟨by decide +kernel, rfl⟩
theorem eX10_layBy_79 : eb_at mX10_layBy 79 80 (.iconst 0) 1 := ⟨by decide +kernel, rfl⟩
theorem eX10_layBy_80 : eb_at mX10_layBy 80 82 (.istore 4) 2 := ⟨by decide +kernel, rfl⟩
theorem eX10_layBy_82 : eb_at mX10_layBy 82 84 (.iload 4) 2 := ⟨by decide +kernel, rfl⟩
theorem eX10_layBy_84 : eb_at mX10_layBy 84 85 (.iload_n 3) 1 := ⟨by decide +kernel, rfl⟩
theorem eX10_layBy_85 : eb_at mX10_layBy 85 88 (.if_icmp .ge 76) 3 := ⟨by decide +kernel, rfl⟩
theorem eX10_layBy_88 : eb_at mX10_layBy 88 89 (.aload_n 0) 1 := ⟨by decide +kernel, rfl⟩
theorem eX10_layBy_89 : eb_at mX10_layBy 89 91 (.iload 4) 2 := ⟨by decide +kernel, rfl⟩
theorem eX10_layBy_91 : eb_at mX10_layBy 91 92 (.iload_n 3) 1 := ⟨by decide +kernel, rfl⟩
theorem eX10_layBy_92 : eb_at mX10_layBy 92 93 (.iload_n 1) 1 := ⟨by decide +kernel, rfl⟩
theorem eX10_layBy_93 : eb_cv mX10_layBy 93 96 mX10_costOf 3 := ⟨127, (RX10, TX10, 29), by decide +kernel, rfl, wd_871, wd_873, wd_30, by decide, rfl, rfl, okX10_costOf⟩
theorem eX10_layBy_96 : eb_at mX10_layBy 96 98 (.istore 5) 2 := ⟨by decide +kernel, rfl⟩
theorem eX10_layBy_98 : eb_at mX10_layBy 98 99 (.aload_n 0) 1 := ⟨by decide +kernel, rfl⟩
theorem eX10_layBy_99 : eb_gf mX10_layBy 99 102 9 12 := ⟨31, (RX10, TX10, 29), by decide +kernel, rfl, rfl, by decide, wd_716⟩
theorem eX10_layBy_102 : eb_at mX10_layBy 102 104 (.bipush 41) 2 := ⟨by decide +kernel, rfl⟩
theorem eX10_layBy_104 : eb_at mX10_layBy 104 106 (.iload 4) 2 := ⟨by decide +kernel, rfl⟩
theorem eX10_layBy_106 : eb_at mX10_layBy 106 107 (.imul) 1 := ⟨by decide +kernel, rfl⟩
theorem eX10_layBy_107 : eb_at mX10_layBy 107 108 (.iload_n 3) 1 := ⟨by decide +kernel, rfl⟩
theorem eX10_layBy_108 : eb_at mX10_layBy 108 109 (.iadd) 1 := ⟨by decide +kernel, rfl⟩
theorem eX10_layBy_109 : eb_at mX10_layBy 109 111 (.iload 5) 2 := ⟨by decide +kernel, rfl⟩
theorem eX10_layBy_111 : eb_at mX10_layBy 111 112 (.iastore) 1 := ⟨by decide +kernel, rfl⟩
theorem eX10_layBy_112 : eb_at mX10_layBy 112 113 (.aload_n 0) 1 := ⟨by decide +kernel, rfl⟩
theorem eX10_layBy_113 : eb_gf mX10_layBy 113 116 9 13 := ⟨34, (RX10, TX10, 29), by decide +kernel, rfl, rfl, by decide, wd_717⟩
theorem eX10_layBy_116 : eb_at mX10_layBy 116 118 (.iload 4) 2 := ⟨by decide +kernel, rfl⟩
theorem eX10_layBy_118 : eb_at mX10_layBy 118 119 (.iaload) 1 := ⟨by decide +kernel, rfl⟩
theorem eX10_layBy_119 : eb_at mX10_layBy 119 121 (.iload 5) 2 := ⟨by decide +kernel, rfl⟩
theorem eX10_layBy_121 : eb_at mX10_layBy 121 122 (.iadd) 1 := ⟨by decide +kernel, rfl⟩
theorem eX10_layBy_122 : eb_at mX10_layBy 122 123 (.aload_n 0) 1 := ⟨by decide +kernel, rfl⟩
theorem eX10_layBy_123 : eb_gf mX10_layBy 123 126 9 13 := ⟨34, (RX10, TX10, 29), by decide +kernel, rfl, rfl, by decide, wd_717⟩
theorem eX10_layBy_126 : eb_at mX10_layBy 126 127 (.iload_n 3) 1 := ⟨by decide +kernel, rfl⟩
theorem eX10_layBy_127 : eb_at mX10_layBy 127 128 (.iaload) 1 := ⟨by decide +kernel, rfl⟩
theorem eX10_layBy_128 : eb_at mX10_layBy 128 131 (.if_icmp .ge 27) 3 := ⟨by decide +kernel, rfl⟩
theorem eX10_layBy_131 : eb_at mX10_layBy 131 132 (.aload_n 0) 1 := ⟨by decide +kernel, rfl⟩
theorem eX10_layBy_132 : eb_gf mX10_layBy 132 135 9 13 := ⟨34, (RX10, TX10, 29), by decide +kernel, rfl, rfl, by decide, wd_717⟩
theorem eX10_layBy_135 : eb_at mX10_layBy 135 136 (.iload_n 3) 1 := ⟨by decide +kernel, rfl⟩
theorem eX10_layBy_136 : eb_at mX10_layBy 136 137 (.aload_n 0) 1 := ⟨by decide +kernel, rfl⟩
theorem eX10_layBy_137 : eb_gf mX10_layBy 137 140 9 13 := ⟨34, (RX10, TX10, 29), by decide +kernel, rfl, rfl, by decide, wd_717⟩
theorem eX10_layBy_140 : eb_at mX10_layBy 140 142 (.iload 4) 2 := ⟨by decide +kernel, rfl⟩
theorem eX10_layBy_142 : eb_at mX10_layBy 142 143 (.iaload) 1 := ⟨by decide +kernel, rfl⟩
theorem eX10_layBy_143 : eb_at mX10_layBy 143 145 (.iload 5) 2 := ⟨by decide +kernel, rfl⟩
theorem eX10_layBy_145 : eb_at mX10_layBy 145 146 (.iadd) 1 := ⟨by decide +kernel, rfl⟩
theorem eX10_layBy_146 : eb_at mX10_layBy 146 147 (.iastore) 1 := ⟨by decide +kernel, rfl⟩
theorem eX10_layBy_147 : eb_at mX10_layBy 147 148 (.aload_n 0) 1 := ⟨by decide +kernel, rfl⟩
theorem eX10_layBy_148 : eb_gf mX10_layBy 148 151 9 14 := ⟨37, (RX10, TX10, 29), by decide +kernel, rfl, rfl, by decide, wd_718⟩
theorem eX10_layBy_151 : eb_at mX10_layBy 151 152 (.iload_n 3) 1 := ⟨by decide +kernel, rfl⟩
theorem eX10_layBy_152 : eb_at mX10_layBy 152 154 (.iload 4) 2 := ⟨by decide +kernel, rfl⟩
theorem eX10_layBy_154 : eb_at mX10_layBy 154 155 (.iastore) 1 := ⟨by decide +kernel, rfl⟩
theorem eX10_layBy_155 : eb_at mX10_layBy 155 158 (.iinc 4 1) 3 := ⟨by decide +kernel, rfl⟩
theorem eX10_layBy_158 : eb_at mX10_layBy 158 161 (.goto (-76)) 3 := ⟨by decide +kernel, rfl⟩
theorem eX10_layBy_161 : eb_at mX10_layBy 161 164 (.iinc 3 1) 3 := ⟨by decide +kernel, rfl⟩
theorem eX10_layBy_164 : eb_at mX10_layBy 164 167 (.goto (-98)) 3 := ⟨by decide +kernel, rfl⟩
theorem eX10_layBy_167 : eb_at mX10_layBy 167 168 (.return_) 1 := ⟨by decide +kernel, rfl⟩
theorem eX10_layLines_0 : eb_at mX10_layLines 0 1 (.aload_n 0) 1 := ⟨by decide +kernel, rfl⟩
theorem eX10_layLines_1 : eb_cv mX10_layLines 1 4 mX10_lay 0 := ⟨137, (RX10, TX10, 29), by decide +kernel, rfl, wd_858, wd_860, wd_27, by decide, rfl, rfl, okX10_lay⟩
theorem eX10_layLines_4 : eb_at mX10_layLines 4 5 (.aload_n 0) 1 := ⟨by decide +kernel, rfl⟩
theorem eX10_layLines_5 : eb_cv mX10_layLines 5 8 mX10_breakLines 0 := ⟨143, (RX10, TX10, 29), by decide +kernel, rfl, wd_885, wd_887, wd_32, by decide, rfl, rfl, okX10_breakLines⟩
theorem eX10_layLines_8 : eb_at mX10_layLines 8 9 (.return_) 1 := ⟨by decide +kernel, rfl⟩
theorem eX10_layMeasures_0 : eb_at mX10_layMeasures 0 1 (.aload_n 0) 1 := ⟨by decide +kernel, rfl⟩
theorem eX10_layMeasures_1 : eb_cv mX10_layMeasures 1 4 mX10_measureWords 0 := ⟨131, (RX10, TX10, 29), by decide +kernel, rfl, wd_862, wd_864, wd_28, by decide, rfl, rfl, okX10_measureWords⟩
theorem eX10_layMeasures_4 : eb_at mX10_layMeasures 4 5 (.aload_n 0) 1 := ⟨by decide +kernel, rfl⟩
theorem eX10_layMeasures_5 : eb_at mX10_layMeasures 5 6 (.iconst 0) 1 := ⟨by decide +kernel, rfl⟩
theorem eX10_layMeasures_6 : eb_pf mX10_layMeasures 6 9 9 24 false .int := ⟨216, (RX10, TX10, 29), by decide +kernel, rfl, rfl, by decide, wd_728, rfl, by decide +kernel, fun h => absurd h (by decide)⟩
theorem eX10_layMeasures_9 : eb_at mX10_layMeasures 9 10 (.aload_n 0) 1 := ⟨by decide +kernel, rfl⟩
theorem eX10_layMeasures_10 : eb_at mX10_layMeasures 10 11 (.iconst (-1)) 1 := ⟨by decide +kernel, rfl⟩
theorem eX10_layMeasures_11 : eb_pf mX10_layMeasures 11 14 9 25 false .int := ⟨219, (RX10, TX10, 29), by decide +kernel, rfl, rfl, by decide, wd_729, rfl, by decide +kernel, fun h => absurd h (by decide)⟩
theorem eX10_layMeasures_14 : eb_at mX10_layMeasures 14 15 (.aload_n 0) 1 := ⟨by decide +kernel, rfl⟩
theorem eX10_layMeasures_15 : eb_at mX10_layMeasures 15 16 (.iconst (-1)) 1 := ⟨by decide +kernel, rfl⟩
theorem eX10_layMeasures_16 : eb_pf mX10_layMeasures 16 19 9 26 false .int := ⟨222, (RX10, TX10, 29), by decide +kernel, rfl, rfl, by decide, wd_730, rfl, by decide +kernel, fun h => absurd h (by decide)⟩
theorem eX10_layMeasures_19 : eb_at mX10_layMeasures 19 20 (.iconst 1) 1 := ⟨by decide +kernel, rfl⟩
theorem eX10_layMeasures_20 : eb_at mX10_layMeasures 20 21 (.istore_n 1) 1 := ⟨by decide +kernel, rfl⟩
theorem eX10_layMeasures_21 : eb_at mX10_layMeasures 21 22 (.iload_n 1) 1 := ⟨by decide +kernel, rfl⟩
theorem eX10_layMeasures_22 : eb_at mX10_layMeasures 22 25 (.sipush 200) 3 := ⟨by decide +kernel, rfl⟩
theorem eX10_layMeasures_25 : eb_at mX10_layMeasures 25 28 (.if_icmp .gt 152) 3 := ⟨by decide +kernel, rfl⟩
theorem eX10_layMeasures_28 : eb_at mX10_layMeasures 28 29 (.aload_n 0) 1 := ⟨by decide +kernel, rfl⟩
theorem eX10_layMeasures_29 : eb_at mX10_layMeasures 29 30 (.iload_n 1) 1 := ⟨by decide +kernel, rfl⟩
theorem eX10_layMeasures_30 : eb_cv mX10_layMeasures 30 33 mX10_layBy 1 := ⟨134, (RX10, TX10, 29), by decide +kernel, rfl, wd_866, wd_868, wd_29, by decide, rfl, rfl, okX10_layBy⟩
theorem eX10_layMeasures_33 : eb_at mX10_layMeasures 33 34 (.aload_n 0) 1 := ⟨by decide +kernel, rfl⟩
theorem eX10_layMeasures_34 : eb_cv mX10_layMeasures 34 37 mX10_breakLines 0 := ⟨143, (RX10, TX10, 29), by decide +kernel, rfl, wd_885, wd_887, wd_32, by decide, rfl, rfl, okX10_breakLines⟩
theorem eX10_layMeasures_37 : eb_at mX10_layMeasures 37 38 (.aload_n 0) 1 := ⟨by decide +kernel, rfl⟩
theorem eX10_layMeasures_38 : eb_gf mX10_layMeasures 38 41 9 22 := ⟨52, (RX10, TX10, 29), by decide +kernel, rfl, rfl, by decide, wd_726⟩
theorem eX10_layMeasures_41 : eb_at mX10_layMeasures 41 42 (.iload_n 1) 1 := ⟨by decide +kernel, rfl⟩
theorem eX10_layMeasures_42 : eb_at mX10_layMeasures 42 43 (.aload_n 0) 1 := ⟨by decide +kernel, rfl⟩
theorem eX10_layMeasures_43 : eb_cv mX10_layMeasures 43 46 mX10_beginSet 0 := ⟨149, (RX10, TX10, 29), by decide +kernel, rfl, wd_893, wd_895, wd_34, by decide, rfl, rfl, okX10_beginSet⟩
theorem eX10_layMeasures_46 : eb_at mX10_layMeasures 46 47 (.lastore) 1 := ⟨by decide +kernel, rfl⟩
theorem eX10_layMeasures_47 : eb_at mX10_layMeasures 47 48 (.iconst 1) 1 := ⟨by decide +kernel, rfl⟩
theorem eX10_layMeasures_48 : eb_at mX10_layMeasures 48 49 (.istore_n 2) 1 := ⟨by decide +kernel, rfl⟩
theorem eX10_layMeasures_49 : eb_at mX10_layMeasures 49 50 (.iconst 0) 1 := ⟨by decide +kernel, rfl⟩
theorem eX10_layMeasures_50 : eb_at mX10_layMeasures 50 51 (.istore_n 3) 1 := ⟨by decide +kernel, rfl⟩
theorem eX10_layMeasures_51 : eb_at mX10_layMeasures 51 52 (.iload_n 3) 1 := ⟨by decide +kernel, rfl⟩
theorem eX10_layMeasures_52 : eb_at mX10_layMeasures 52 53 (.aload_n 0) 1 := ⟨by decide +kernel, rfl⟩
theorem eX10_layMeasures_53 : eb_gf mX10_layMeasures 53 56 9 19 := ⟨225, (RX10, TX10, 29), by decide +kernel, rfl, rfl, by decide, wd_723⟩
theorem eX10_layMeasures_56 : eb_at mX10_layMeasures 56 59 (.if_icmp .ge 51) 3 := ⟨by decide +kernel, rfl⟩
theorem eX10_layMeasures_59 : eb_at mX10_layMeasures 59 60 (.iload_n 2) 1 := ⟨by decide +kernel, rfl⟩
theorem eX10_layMeasures_60 : eb_at mX10_layMeasures 60 63 (.ifCond .eq 39) 3 := ⟨by decide +kernel, rfl⟩
theorem eX10_layMeasures_63 : eb_at mX10_layMeasures 63 64 (.aload_n 0) 1 := ⟨by decide +kernel, rfl⟩
theorem eX10_layMeasures_64 : eb_gf mX10_layMeasures 64 67 9 22 := ⟨52, (RX10, TX10, 29), by decide +kernel, rfl, rfl, by decide, wd_726⟩
theorem eX10_layMeasures_67 : eb_at mX10_layMeasures 67 68 (.iload_n 1) 1 := ⟨by decide +kernel, rfl⟩
theorem eX10_layMeasures_68 : eb_at mX10_layMeasures 68 69 (.laload) 1 := ⟨by decide +kernel, rfl⟩
theorem eX10_layMeasures_69 : eb_at mX10_layMeasures 69 70 (.aload_n 0) 1 := ⟨by decide +kernel, rfl⟩
theorem eX10_layMeasures_70 : eb_gf mX10_layMeasures 70 73 9 18 := ⟨46, (RX10, TX10, 29), by decide +kernel, rfl, rfl, by decide, wd_722⟩
theorem eX10_layMeasures_73 : eb_at mX10_layMeasures 73 74 (.iconst 2) 1 := ⟨by decide +kernel, rfl⟩
theorem eX10_layMeasures_74 : eb_at mX10_layMeasures 74 75 (.iload_n 3) 1 := ⟨by decide +kernel, rfl⟩
theorem eX10_layMeasures_75 : eb_at mX10_layMeasures 75 76 (.imul) 1 := ⟨by decide +kernel, rfl⟩
theorem eX10_layMeasures_76 : eb_at mX10_layMeasures 76 77 (.iaload) 1 := ⟨by decide +kernel, rfl⟩
theorem eX10_layMeasures_77 : eb_at mX10_layMeasures 77 78 (.lshr) 1 := ⟨by decide +kernel, rfl⟩
theorem eX10_layMeasures_78 : eb_at mX10_layMeasures 78 79 (.lconst 1) 1 := ⟨by decide +kernel, rfl⟩
theorem eX10_layMeasures_79 : eb_at mX10_layMeasures 79 80 (.land) 1 := ⟨by decide +kernel, rfl⟩
theorem eX10_layMeasures_80 : eb_at mX10_layMeasures 80 81 (.aload_n 0) 1 := ⟨by decide +kernel, rfl⟩
theorem eX10_layMeasures_81 : eb_gf mX10_layMeasures 81 84 9 18 := ⟨46, (RX10, TX10, 29), by decide +kernel, rfl, rfl, by decide, wd_722⟩
theorem eX10_layMeasures_84 : eb_at mX10_layMeasures 84 85 (.iconst 2) 1 := ⟨by decide +kernel, rfl⟩
theorem eX10_layMeasures_85 : eb_at mX10_layMeasures 85 86 (.iload_n 3) 1 := ⟨by decide +kernel, rfl⟩
theorem eX10_layMeasures_86 : eb_at mX10_layMeasures 86 87 (.imul) 1 := ⟨by decide +kernel, rfl⟩
theorem eX10_layMeasures_87 : eb_at mX10_layMeasures 87 88 (.iconst 1) 1 := ⟨by decide +kernel, rfl⟩
theorem eX10_layMeasures_88 : eb_at mX10_layMeasures 88 89 (.iadd) 1 := ⟨by decide +kernel, rfl⟩
theorem eX10_layMeasures_89 : eb_at mX10_layMeasures 89 90 (.iaload) 1 := ⟨by decide +kernel, rfl⟩
theorem eX10_layMeasures_90 : eb_at mX10_layMeasures 90 91 (.i2l) 1 := ⟨by decide +kernel, rfl⟩
theorem eX10_layMeasures_91 : eb_at mX10_layMeasures 91 92 (.lcmp) 1 := ⟨by decide +kernel, rfl⟩
theorem eX10_layMeasures_92 : eb_at mX10_layMeasures 92 95 (.ifCond .ne 7) 3 := ⟨by decide +kernel, rfl⟩
theorem eX10_layMeasures_95 : eb_at mX10_layMeasures 95 96 (.iconst 1) 1 := ⟨by decide +kernel, rfl⟩
theorem eX10_layMeasures_96 : eb_at mX10_layMeasures 96 99 (.goto 4) 3 := ⟨by decide +kernel, rfl⟩
theorem eX10_layMeasures_99 : eb_at mX10_layMeasures 99 100 (.iconst 0) 1 := ⟨by decide +kernel, rfl⟩
theorem eX10_layMeasures_100 : eb_at mX10_layMeasures 100 101 (.istore_n 2) 1 := ⟨by decide +kernel, rfl⟩
theorem eX10_layMeasures_101 : eb_at mX10_layMeasures 101 104 (.iinc 3 1) 3 := ⟨by decide +kernel, rfl⟩
theorem eX10_layMeasures_104 : eb_at mX10_layMeasures 104 107 (.goto (-53)) 3 := ⟨by decide +kernel, rfl⟩
theorem eX10_layMeasures_107 : eb_at mX10_layMeasures 107 108 (.aload_n 0) 1 := ⟨by decide +kernel, rfl⟩
theorem eX10_layMeasures_108 : eb_gf mX10_layMeasures 108 111 9 23 := ⟨56, (RX10, TX10, 29), by decide +kernel, rfl, rfl, by decide, wd_727⟩
theorem eX10_layMeasures_111 : eb_at mX10_layMeasures 111 112 (.iload_n 1) 1 := ⟨by decide +kernel, rfl⟩
theorem eX10_layMeasures_112 : eb_at mX10_layMeasures 112 113 (.iload_n 2) 1 := ⟨by decide +kernel, rfl⟩
theorem eX10_layMeasures_113 : eb_at mX10_layMeasures 113 114 (.bastore) 1 := ⟨by decide +kernel, rfl⟩
theorem eX10_layMeasures_114 : eb_at mX10_layMeasures 114 115 (.aload_n 0) 1 := ⟨by decide +kernel, rfl⟩
theorem eX10_layMeasures_115 : eb_at mX10_layMeasures 115 116 (.dup) 1 := ⟨by decide +kernel, rfl⟩
theorem eX10_layMeasures_116 : eb_gf mX10_layMeasures 116 119 9 24 := ⟨216, (RX10, TX10, 29), by decide +kernel, rfl, rfl, by decide, wd_728⟩
theorem eX10_layMeasures_119 : eb_at mX10_layMeasures 119 120 (.iload_n 2) 1 := ⟨by decide +kernel, rfl⟩
theorem eX10_layMeasures_120 : eb_at mX10_layMeasures 120 123 (.ifCond .eq 7) 3 := ⟨by decide +kernel, rfl⟩
theorem eX10_layMeasures_123 : eb_at mX10_layMeasures 123 124 (.iconst 1) 1 := ⟨by decide +kernel, rfl⟩
theorem eX10_layMeasures_124 : eb_at mX10_layMeasures 124 127 (.goto 4) 3 := ⟨by decide +kernel, rfl⟩
theorem eX10_layMeasures_127 : eb_at mX10_layMeasures 127 128 (.iconst 0) 1 := ⟨by decide +kernel, rfl⟩
theorem eX10_layMeasures_128 : eb_at mX10_layMeasures 128 129 (.iadd) 1 := ⟨by decide +kernel, rfl⟩
theorem eX10_layMeasures_129 : eb_pf mX10_layMeasures 129 132 9 24 false .int := ⟨216, (RX10, TX10, 29), by decide +kernel, rfl, rfl, by decide, wd_728, rfl, by decide +kernel, fun h => absurd h (by decide)⟩
theorem eX10_layMeasures_132 : eb_at mX10_layMeasures 132 133 (.aload_n 0) 1 := ⟨by decide +kernel, rfl⟩
theorem eX10_layMeasures_133 : eb_at mX10_layMeasures 133 134 (.iload_n 2) 1 := ⟨by decide +kernel, rfl⟩
theorem eX10_layMeasures_134 : eb_at mX10_layMeasures 134 137 (.ifCond .eq 14) 3 := ⟨by decide +kernel, rfl⟩
theorem eX10_layMeasures_137 : eb_at mX10_layMeasures 137 138 (.aload_n 0) 1 := ⟨by decide +kernel, rfl⟩
theorem eX10_layMeasures_138 : eb_gf mX10_layMeasures 138 141 9 25 := ⟨219, (RX10, TX10, 29), by decide +kernel, rfl, rfl, by decide, wd_729⟩
theorem eX10_layMeasures_141 : eb_at mX10_layMeasures 141 144 (.ifCond .ge 7) 3 := ⟨by decide +kernel, rfl⟩
theorem eX10_layMeasures_144 : eb_at mX10_layMeasures 144 145 (.iload_n 1) 1 := ⟨by decide +kernel, rfl⟩
theorem eX10_layMeasures_145 : eb_at mX10_layMeasures 145 148 (.goto 7) 3 := ⟨by decide +kernel, rfl⟩
theorem eX10_layMeasures_148 : eb_at mX10_layMeasures 148 149 (.aload_n 0) 1 := ⟨by decide +kernel, rfl⟩
theorem eX10_layMeasures_149 : eb_gf mX10_layMeasures 149 152 9 25 := ⟨219, (RX10, TX10, 29), by decide +kernel, rfl, rfl, by decide, wd_729⟩
theorem eX10_layMeasures_152 : eb_pf mX10_layMeasures 152 155 9 25 false .int := ⟨219, (RX10, TX10, 29), by decide +kernel, rfl, rfl, by decide, wd_729, rfl, by decide +kernel, fun h => absurd h (by decide)⟩
theorem eX10_layMeasures_155 : eb_at mX10_layMeasures 155 156 (.aload_n 0) 1 := ⟨by decide +kernel, rfl⟩
theorem eX10_layMeasures_156 : eb_at mX10_layMeasures 156 157 (.iload_n 2) 1 := ⟨by decide +kernel, rfl⟩
theorem eX10_layMeasures_157 : eb_at mX10_layMeasures 157 160 (.ifCond .eq 7) 3 := ⟨by decide +kernel, rfl⟩
theorem eX10_layMeasures_160 : eb_at mX10_layMeasures 160 161 (.iload_n 1) 1 := ⟨by decide +kernel, rfl⟩
theorem eX10_layMeasures_161 : eb_at mX10_layMeasures 161 164 (.goto 7) 3 := ⟨by decide +kernel, rfl⟩
theorem eX10_layMeasures_164 : eb_at mX10_layMeasures 164 165 (.aload_n 0) 1 := ⟨by decide +kernel, rfl⟩
theorem eX10_layMeasures_165 : eb_gf mX10_layMeasures 165 168 9 26 := ⟨222, (RX10, TX10, 29), by decide +kernel, rfl, rfl, by decide, wd_730⟩
theorem eX10_layMeasures_168 : eb_pf mX10_layMeasures 168 171 9 26 false .int := ⟨222, (RX10, TX10, 29), by decide +kernel, rfl, rfl, by decide, wd_730, rfl, by decide +kernel, fun h => absurd h (by decide)⟩
theorem eX10_layMeasures_171 : eb_at mX10_layMeasures 171 174 (.iinc 1 1) 3 := ⟨by decide +kernel, rfl⟩
theorem eX10_layMeasures_174 : eb_at mX10_layMeasures 174 177 (.goto (-153)) 3 := ⟨by decide +kernel, rfl⟩
theorem eX10_layMeasures_177 : eb_at mX10_layMeasures 177 178 (.return_) 1 := ⟨by decide +kernel, rfl⟩
theorem eX10_line_0 : eb_at mX10_line 0 1 (.aload_n 0) 1 := ⟨by decide +kernel, rfl⟩
theorem eX10_line_1 : eb_cv mX10_line 1 4 mX10_layLines 0 := ⟨146, (RX10, TX10, 29), by decide +kernel, rfl, wd_854, wd_856, wd_26, by decide, rfl, rfl, okX10_layLines⟩
theorem eX10_line_4 : eb_at mX10_line 4 5 (.iload_n 1) 1 := ⟨by decide +kernel, rfl⟩
theorem eX10_line_5 : eb_at mX10_line 5 6 (.i2l) 1 := ⟨by decide +kernel, rfl⟩
theorem eX10_line_6 : eb_at mX10_line 6 7 (.lconst 0) 1 := ⟨by decide +kernel, rfl⟩
theorem eX10_line_7 : eb_at mX10_line 7 8 (.aload_n 0) 1 := ⟨by decide +kernel, rfl⟩
theorem eX10_line_8 : eb_gf mX10_line 8 11 9 16 := ⟨140, (RX10, TX10, 29), by decide +kernel, rfl, rfl, by decide, wd_720⟩
theorem eX10_line_11 : eb_at mX10_line 11 12 (.iconst 1) 1 := ⟨by decide +kernel, rfl⟩
theorem eX10_line_12 : eb_at mX10_line 12 13 (.isub) 1 := ⟨by decide +kernel, rfl⟩
theorem eX10_line_13 : eb_at mX10_line 13 14 (.i2l) 1 := ⟨by decide +kernel, rfl⟩
theorem eX10_line_14 : eb_cs mX10_line 14 17 mX10_in 3 := ⟨70, by decide +kernel, rfl, wd_798, wd_799, by decide, okX10_in⟩
theorem eX10_line_17 : eb_at mX10_line 17 20 (.ifCond .ne 6) 3 := ⟨by decide +kernel, rfl⟩
theorem eX10_line_20 : eb_at mX10_line 20 22 (.ldc 157) 2 := ⟨by decide +kernel, rfl⟩
theorem eX10_line_22 : eb_at mX10_line 22 23 (.ireturn) 1 := ⟨by decide +kernel, rfl⟩
theorem eX10_line_23 : eb_at mX10_line 23 24 (.iload_n 2) 1 := ⟨by decide +kernel, rfl⟩
theorem eX10_line_24 : eb_at mX10_line 24 56 (.tableswitch 91 0 3 #[32, 39, 48, 67]) 32 := ⟨by decide +kernel, rfl⟩
theorem eX10_line_56 : eb_at mX10_line 56 57 (.aload_n 0) 1 := ⟨by decide +kernel, rfl⟩
theorem eX10_line_57 : eb_gf mX10_line 57 60 9 15 := ⟨40, (RX10, TX10, 29), by decide +kernel, rfl, rfl, by decide, wd_719⟩
theorem eX10_line_60 : eb_at mX10_line 60 61 (.iload_n 1) 1 := ⟨by decide +kernel, rfl⟩
theorem eX10_line_61 : eb_at mX10_line 61 62 (.iaload) 1 := ⟨by decide +kernel, rfl⟩
theorem eX10_line_62 : eb_at mX10_line 62 63 (.ireturn) 1 := ⟨by decide +kernel, rfl⟩
theorem eX10_line_63 : eb_at mX10_line 63 64 (.aload_n 0) 1 := ⟨by decide +kernel, rfl⟩
theorem eX10_line_64 : eb_gf mX10_line 64 67 9 15 := ⟨40, (RX10, TX10, 29), by decide +kernel, rfl, rfl, by decide, wd_719⟩
theorem eX10_line_67 : eb_at mX10_line 67 68 (.iload_n 1) 1 := ⟨by decide +kernel, rfl⟩
theorem eX10_line_68 : eb_at mX10_line 68 69 (.iconst 1) 1 := ⟨by decide +kernel, rfl⟩
theorem eX10_line_69 : eb_at mX10_line 69 70 (.iadd) 1 := ⟨by decide +kernel, rfl⟩
theorem eX10_line_70 : eb_at mX10_line 70 71 (.iaload) 1 := ⟨by decide +kernel, rfl⟩
theorem eX10_line_71 : eb_at mX10_line 71 72 (.ireturn) 1 := ⟨by decide +kernel, rfl⟩
theorem eX10_line_72 : eb_at mX10_line 72 73 (.aload_n 0) 1 := ⟨by decide +kernel, rfl⟩
theorem eX10_line_73 : eb_at mX10_line 73 74 (.aload_n 0) 1 := ⟨by decide +kernel, rfl⟩
theorem eX10_line_74 : eb_gf mX10_line 74 77 9 15 := ⟨40, (RX10, TX10, 29), by decide +kernel, rfl, rfl, by decide, wd_719⟩
theorem eX10_line_77 : eb_at mX10_line 77 78 (.iload_n 1) 1 := ⟨by decide +kernel, rfl⟩
theorem eX10_line_78 : eb_at mX10_line 78 79 (.iaload) 1 := ⟨by decide +kernel, rfl⟩
theorem eX10_line_79 : eb_at mX10_line 79 80 (.aload_n 0) 1 := ⟨by decide +kernel, rfl⟩
theorem eX10_line_80 : eb_gf mX10_line 80 83 9 15 := ⟨40, (RX10, TX10, 29), by decide +kernel, rfl, rfl, by decide, wd_719⟩
theorem eX10_line_83 : eb_at mX10_line 83 84 (.iload_n 1) 1 := ⟨by decide +kernel, rfl⟩
theorem eX10_line_84 : eb_at mX10_line 84 85 (.iconst 1) 1 := ⟨by decide +kernel, rfl⟩
theorem eX10_line_85 : eb_at mX10_line 85 86 (.iadd) 1 := ⟨by decide +kernel, rfl⟩
theorem eX10_line_86 : eb_at mX10_line 86 87 (.iaload) 1 := ⟨by decide +kernel, rfl⟩
theorem eX10_line_87 : eb_cv mX10_line 87 90 mX10_lineWidth 2 := ⟨117, (RX10, TX10, 29), by decide +kernel, rfl, wd_875, wd_877, wd_31, by decide, rfl, rfl, okX10_lineWidth⟩
theorem eX10_line_90 : eb_at mX10_line 90 91 (.ireturn) 1 := ⟨by decide +kernel, rfl⟩
theorem eX10_line_91 : eb_at mX10_line 91 92 (.aload_n 0) 1 := ⟨by decide +kernel, rfl⟩
theorem eX10_line_92 : eb_gf mX10_line 92 95 9 12 := ⟨31, (RX10, TX10, 29), by decide +kernel, rfl, rfl, by decide, wd_716⟩
theorem eX10_line_95 : eb_at mX10_line 95 97 (.bipush 41) 2 := ⟨by decide +kernel, rfl⟩
theorem eX10_line_97 : eb_at mX10_line 97 98 (.aload_n 0) 1 := ⟨by decide +kernel, rfl⟩
theorem eX10_line_98 : eb_gf mX10_line 98 101 9 15 := ⟨40, (RX10, TX10, 29), by decide +kernel, rfl, rfl, by decide, wd_719⟩
theorem eX10_line_101 : eb_at mX10_line 101 102 (.iload_n 1) 1 := ⟨by decide +kernel, rfl⟩
theorem eX10_line_102 : eb_at mX10_line 102 103 (.iaload) 1 := ⟨by decide +kernel, rfl⟩
theorem eX10_line_103 : eb_at mX10_line 103 104 (.imul) 1 := ⟨by decide +kernel, rfl⟩
theorem eX10_line_104 : eb_at mX10_line 104 105 (.aload_n 0) 1 := ⟨by decide +kernel, rfl⟩
theorem eX10_line_105 : eb_gf mX10_line 105 108 9 15 := ⟨40, (RX10, TX10, 29), by decide +kernel, rfl, rfl, by decide, wd_719⟩
theorem eX10_line_108 : eb_at mX10_line 108 109 (.iload_n 1) 1 := ⟨by decide +kernel, rfl⟩
theorem eX10_line_109 : eb_at mX10_line 109 110 (.iconst 1) 1 := ⟨by decide +kernel, rfl⟩
theorem eX10_line_110 : eb_at mX10_line 110 111 (.iadd) 1 := ⟨by decide +kernel, rfl⟩
theorem eX10_line_111 : eb_at mX10_line 111 112 (.iaload) 1 := ⟨by decide +kernel, rfl⟩
theorem eX10_line_112 : eb_at mX10_line 112 113 (.iadd) 1 := ⟨by decide +kernel, rfl⟩
theorem eX10_line_113 : eb_at mX10_line 113 114 (.iaload) 1 := ⟨by decide +kernel, rfl⟩
theorem eX10_line_114 : eb_at mX10_line 114 115 (.ireturn) 1 := ⟨by decide +kernel, rfl⟩
theorem eX10_line_115 : eb_at mX10_line 115 117 (.ldc 76) 2 := ⟨by decide +kernel, rfl⟩
theorem eX10_line_117 : eb_at mX10_line 117 118 (.ireturn) 1 := ⟨by decide +kernel, rfl⟩
theorem eX10_lineOf_0 : eb_at mX10_lineOf 0 1 (.aload_n 0) 1 := ⟨by decide +kernel, rfl⟩
theorem eX10_lineOf_1 : eb_cv mX10_lineOf 1 4 mX10_layLines 0 := ⟨146, (RX10, TX10, 29), by decide +kernel, rfl, wd_854, wd_856, wd_26, by decide, rfl, rfl, okX10_layLines⟩
theorem eX10_lineOf_4 : eb_at mX10_lineOf 4 5 (.iconst 0) 1 := ⟨by decide +kernel, rfl⟩
theorem eX10_lineOf_5 : eb_at mX10_lineOf 5 6 (.istore_n 2) 1 := ⟨by decide +kernel, rfl⟩
theorem eX10_lineOf_6 : eb_at mX10_lineOf 6 7 (.aload_n 0) 1 := ⟨by decide +kernel, rfl⟩
theorem eX10_lineOf_7 : eb_gf mX10_lineOf 7 10 9 15 := ⟨40, (RX10, TX10, 29), by decide +kernel, rfl, rfl, by decide, wd_719⟩
theorem eX10_lineOf_10 : eb_at mX10_lineOf 10 11 (.iload_n 2) 1 := ⟨by decide +kernel, rfl⟩
theorem eX10_lineOf_11 : eb_at mX10_lineOf 11 12 (.iconst 1) 1 := ⟨by decide +kernel, rfl⟩
theorem eX10_lineOf_12 : eb_at mX10_lineOf 12 13 (.iadd) 1 := ⟨by decide +kernel, rfl⟩
theorem eX10_lineOf_13 : eb_at mX10_lineOf 13 14 (.iaload) 1 := ⟨by decide +kernel, rfl⟩
theorem eX10_lineOf_14 : eb_at mX10_lineOf 14 15 (.iload_n 1) 1 := ⟨by decide +kernel, rfl⟩
theorem eX10_lineOf_15 : eb_at mX10_lineOf 15 18 (.if_icmp .gt 9) 3 := ⟨by decide +kernel, rfl⟩
theorem eX10_lineOf_18 : eb_at mX10_lineOf 18 21 (.iinc 2 1) 3 := ⟨by decide +kernel, rfl⟩
theorem eX10_lineOf_21 : eb_at mX10_lineOf 21 24 (.goto (-15)) 3 := ⟨by decide +kernel, rfl⟩
theorem eX10_lineOf_24 : eb_at mX10_lineOf 24 25 (.iload_n 2) 1 := ⟨by decide +kernel, rfl⟩
theorem eX10_lineOf_25 : eb_at mX10_lineOf 25 26 (.ireturn) 1 := ⟨by decide +kernel, rfl⟩
theorem eX10_lineWidth_0 : eb_at mX10_lineWidth 0 1 (.aload_n 0) 1 := ⟨by decide +kernel, rfl⟩
theorem eX10_lineWidth_1 : eb_gf mX10_lineWidth 1 4 9 11 := ⟨28, (RX10, TX10, 29), by decide +kernel, rfl, rfl, by decide, wd_715⟩
theorem eX10_lineWidth_4 : eb_at mX10_lineWidth 4 5 (.iload_n 2) 1 := ⟨by decide +kernel, rfl⟩
theorem eX10_lineWidth_5 : eb_at mX10_lineWidth 5 6 (.iaload) 1 := ⟨by decide +kernel, rfl⟩
theorem eX10_lineWidth_6 : eb_at mX10_lineWidth 6 7 (.aload_n 0) 1 := ⟨by decide +kernel, rfl⟩
theorem eX10_lineWidth_7 : eb_gf mX10_lineWidth 7 10 9 11 := ⟨28, (RX10, TX10, 29), by decide +kernel, rfl, rfl, by decide, wd_715⟩
theorem eX10_lineWidth_10 : eb_at mX10_lineWidth 10 11 (.iload_n 1) 1 := ⟨by decide +kernel, rfl⟩
theorem eX10_lineWidth_11 : eb_at mX10_lineWidth 11 12 (.iaload) 1 := ⟨by decide +kernel, rfl⟩
theorem eX10_lineWidth_12 : eb_at mX10_lineWidth 12 13 (.isub) 1 := ⟨by decide +kernel, rfl⟩
theorem eX10_lineWidth_13 : eb_at mX10_lineWidth 13 14 (.iconst 1) 1 := ⟨by decide +kernel, rfl⟩
theorem eX10_lineWidth_14 : eb_at mX10_lineWidth 14 15 (.isub) 1 := ⟨by decide +kernel, rfl⟩
theorem eX10_lineWidth_15 : eb_at mX10_lineWidth 15 16 (.ireturn) 1 := ⟨by decide +kernel, rfl⟩
theorem eX10_lookOf_0 : eb_at mX10_lookOf 0 1 (.aload_n 0) 1 := ⟨by decide +kernel, rfl⟩
theorem eX10_lookOf_1 : eb_cv mX10_lookOf 1 4 mX10_layMeasures 0 := ⟨228, (RX10, TX10, 29), by decide +kernel, rfl, wd_1051, wd_1053, wd_48, by decide, rfl, rfl, okX10_layMeasures⟩
theorem eX10_lookOf_4 : eb_at mX10_lookOf 4 5 (.iconst (-1)) 1 := ⟨by decide +kernel, rfl⟩
theorem eX10_lookOf_5 : eb_at mX10_lookOf 5 6 (.istore_n 1) 1 := ⟨by decide +kernel, rfl⟩
theorem eX10_lookOf_6 : eb_at mX10_lookOf 6 7 (.aload_n 0) 1 := ⟨by decide +kernel, rfl⟩
theorem eX10_lookOf_7 : eb_gf mX10_lookOf 7 10 9 24 := ⟨216, (RX10, TX10, 29), by decide +kernel, rfl, rfl, by decide, wd_728⟩
theorem eX10_lookOf_10 : eb_at mX10_lookOf 10 11 (.istore_n 2) 1 := ⟨by decide +kernel, rfl⟩
theorem eX10_lookOf_11 : eb_at mX10_lookOf 11 12 (.iconst 0) 1 := ⟨by decide +kernel, rfl⟩
theorem eX10_lookOf_12 : eb_at mX10_lookOf 12 13 (.istore_n 3) 1 := ⟨by decide +kernel, rfl⟩
theorem eX10_lookOf_13 : eb_at mX10_lookOf 13 14 (.iload_n 3) 1 := ⟨by decide +kernel, rfl⟩
theorem eX10_lookOf_14 : eb_at mX10_lookOf 14 15 (.aload_n 0) 1 := ⟨by decide +kernel, rfl⟩
theorem eX10_lookOf_15 : eb_gf mX10_lookOf 15 18 9 0 := ⟨7, (RX10, TX10, 29), by decide +kernel, rfl, rfl, by decide, wd_704⟩
theorem eX10_lookOf_18 : eb_at mX10_lookOf 18 19 (.iconst 0) 1 := ⟨by decide +kernel, rfl⟩
theorem eX10_lookOf_19 : eb_at mX10_lookOf 19 20 (.iaload) 1 := ⟨by decide +kernel, rfl⟩
theorem eX10_lookOf_20 : eb_at mX10_lookOf 20 23 (.if_icmp .gt 116) 3 := ⟨by decide +kernel, rfl⟩
theorem eX10_lookOf_23 : eb_at mX10_lookOf 23 24 (.iconst 0) 1 := ⟨by decide +kernel, rfl⟩
theorem eX10_lookOf_24 : eb_at mX10_lookOf 24 26 (.istore 4) 2 := ⟨by decide +kernel, rfl⟩
theorem eX10_lookOf_26 : eb_at mX10_lookOf 26 27 (.iconst 1) 1 := ⟨by decide +kernel, rfl⟩
theorem eX10_lookOf_27 : eb_at mX10_lookOf 27 29 (.istore 5) 2 := ⟨by decide +kernel, rfl⟩
theorem eX10_lookOf_29 : eb_at mX10_lookOf 29 31 (.iload 5) 2 := ⟨by decide +kernel, rfl⟩
theorem eX10_lookOf_31 : eb_at mX10_lookOf 31 34 (.sipush 200) 3 := ⟨by decide +kernel, rfl⟩
theorem eX10_lookOf_34 : eb_at mX10_lookOf 34 37 (.if_icmp .gt 45) 3 := ⟨by decide +kernel, rfl⟩
theorem eX10_lookOf_37 : eb_at mX10_lookOf 37 39 (.iload 4) 2 := ⟨by decide +kernel, rfl⟩
theorem eX10_lookOf_39 : eb_at mX10_lookOf 39 40 (.aload_n 0) 1 := ⟨by decide +kernel, rfl⟩
theorem eX10_lookOf_40 : eb_gf mX10_lookOf 40 43 9 23 := ⟨56, (RX10, TX10, 29), by decide +kernel, rfl, rfl, by decide, wd_727⟩
theorem eX10_lookOf_43 : eb_at mX10_lookOf 43 45 (.iload 5) 2 := ⟨by decide +kernel, rfl⟩
theorem eX10_lookOf_45 : eb_at mX10_lookOf 45 46 (.baload) 1 := ⟨by decide +kernel, rfl⟩
theorem eX10_lookOf_46 : eb_at mX10_lookOf 46 49 (.ifCond .eq 23) 3 := ⟨by decide +kernel, rfl⟩
theorem eX10_lookOf_49 : eb_at mX10_lookOf 49 50 (.aload_n 0) 1 := ⟨by decide +kernel, rfl⟩
theorem eX10_lookOf_50 : eb_gf mX10_lookOf 50 53 9 22 := ⟨52, (RX10, TX10, 29), by decide +kernel, rfl, rfl, by decide, wd_726⟩
theorem eX10_lookOf_53 : eb_at mX10_lookOf 53 55 (.iload 5) 2 := ⟨by decide +kernel, rfl⟩
theorem eX10_lookOf_55 : eb_at mX10_lookOf 55 56 (.laload) 1 := ⟨by decide +kernel, rfl⟩
theorem eX10_lookOf_56 : eb_at mX10_lookOf 56 57 (.iload_n 3) 1 := ⟨by decide +kernel, rfl⟩
theorem eX10_lookOf_57 : eb_at mX10_lookOf 57 58 (.lshr) 1 := ⟨by decide +kernel, rfl⟩
theorem eX10_lookOf_58 : eb_at mX10_lookOf 58 59 (.lconst 1) 1 := ⟨by decide +kernel, rfl⟩
theorem eX10_lookOf_59 : eb_at mX10_lookOf 59 60 (.land) 1 := ⟨by decide +kernel, rfl⟩
theorem eX10_lookOf_60 : eb_at mX10_lookOf 60 61 (.lconst 1) 1 := ⟨by decide +kernel, rfl⟩
theorem eX10_lookOf_61 : eb_at mX10_lookOf 61 62 (.lcmp) 1 := ⟨by decide +kernel, rfl⟩
theorem eX10_lookOf_62 : eb_at mX10_lookOf 62 65 (.ifCond .ne 7) 3 := ⟨by decide +kernel, rfl⟩
theorem eX10_lookOf_65 : eb_at mX10_lookOf 65 66 (.iconst 1) 1 := ⟨by decide +kernel, rfl⟩
theorem eX10_lookOf_66 : eb_at mX10_lookOf 66 69 (.goto 4) 3 := ⟨by decide +kernel, rfl⟩
theorem eX10_lookOf_69 : eb_at mX10_lookOf 69 70 (.iconst 0) 1 := ⟨by decide +kernel, rfl⟩
theorem eX10_lookOf_70 : eb_at mX10_lookOf 70 71 (.iadd) 1 := ⟨by decide +kernel, rfl⟩
theorem eX10_lookOf_71 : eb_at mX10_lookOf 71 73 (.istore 4) 2 := ⟨by decide +kernel, rfl⟩
theorem eX10_lookOf_73 : eb_at mX10_lookOf 73 76 (.iinc 5 1) 3 := ⟨by decide +kernel, rfl⟩
theorem eX10_lookOf_76 : eb_at mX10_lookOf 76 79 (.goto (-47)) 3 := ⟨by decide +kernel, rfl⟩
theorem eX10_lookOf_79 : eb_at mX10_lookOf 79 81 (.iload 4) 2 := ⟨by decide +kernel, rfl⟩
theorem eX10_lookOf_81 : eb_at mX10_lookOf 81 82 (.aload_n 0) 1 := ⟨by decide +kernel, rfl⟩
theorem eX10_lookOf_82 : eb_gf mX10_lookOf 82 85 9 24 := ⟨216, (RX10, TX10, 29), by decide +kernel, rfl, rfl, by decide, wd_728⟩
theorem eX10_lookOf_85 : eb_at mX10_lookOf 85 87 (.iload 4) 2 := ⟨by decide +kernel, rfl⟩
theorem eX10_lookOf_87 : eb_at mX10_lookOf 87 88 (.isub) 1 := ⟨by decide +kernel, rfl⟩
theorem eX10_lookOf_88 : eb_at mX10_lookOf 88 91 (.if_icmp .le 8) 3 := ⟨by decide +kernel, rfl⟩
theorem eX10_lookOf_91 : eb_at mX10_lookOf 91 93 (.iload 4) 2 := ⟨by decide +kernel, rfl⟩
theorem eX10_lookOf_93 : eb_at mX10_lookOf 93 96 (.goto 10) 3 := ⟨by decide +kernel, rfl⟩
theorem eX10_lookOf_96 : eb_at mX10_lookOf 96 97 (.aload_n 0) 1 := ⟨by decide +kernel, rfl⟩
theorem eX10_lookOf_97 : eb_gf mX10_lookOf 97 100 9 24 := ⟨216, (RX10, TX10, 29), by decide +kernel, rfl, rfl, by decide, wd_728⟩
theorem eX10_lookOf_100 : eb_at mX10_lookOf 100 102 (.iload 4) 2 := ⟨by decide +kernel, rfl⟩
theorem eX10_lookOf_102 : eb_at mX10_lookOf 102 103 (.isub) 1 := ⟨by decide +kernel, rfl⟩
theorem eX10_lookOf_103 : eb_at mX10_lookOf 103 105 (.istore 5) 2 := ⟨by decide +kernel, rfl⟩
theorem eX10_lookOf_105 : eb_at mX10_lookOf 105 107 (.iload 5) 2 := ⟨by decide +kernel, rfl⟩
theorem eX10_lookOf_107 : eb_at mX10_lookOf 107 108 (.iload_n 2) 1 := ⟨by decide +kernel, rfl⟩
theorem eX10_lookOf_108 : eb_at mX10_lookOf 108 111 (.if_icmp .ge 7) 3 := ⟨by decide +kernel, rfl⟩
theorem eX10_lookOf_111 : eb_at mX10_lookOf 111 112 (.iload_n 3) 1 := ⟨by decide +kernel, rfl⟩
theorem eX10_lookOf_112 : eb_at mX10_lookOf 112 115 (.goto 4) 3 := ⟨by decide +kernel, rfl⟩
theorem eX10_lookOf_115 : eb_at mX10_lookOf 115 116 (.iload_n 1) 1 := ⟨by decide +kernel, rfl⟩
theorem eX10_lookOf_116 : eb_at mX10_lookOf 116 117 (.istore_n 1) 1 := ⟨by decide +kernel, rfl⟩
theorem eX10_lookOf_117 : eb_at mX10_lookOf 117 119 (.iload 5) 2 := ⟨by decide +kernel, rfl⟩
theorem eX10_lookOf_119 : eb_at mX10_lookOf 119 120 (.iload_n 2) 1 := ⟨by decide +kernel, rfl⟩
theorem eX10_lookOf_120 : eb_at mX10_lookOf 120 123 (.if_icmp .ge 8) 3 := ⟨by decide +kernel, rfl⟩
theorem eX10_lookOf_123 : eb_at mX10_lookOf 123 125 (.iload 5) 2 := ⟨by decide +kernel, rfl⟩
theorem eX10_lookOf_125 : eb_at mX10_lookOf 125 128 (.goto 4) 3 := ⟨by decide +kernel, rfl⟩
theorem eX10_lookOf_128 : eb_at mX10_lookOf 128 129 (.iload_n 2) 1 := ⟨by decide +kernel, rfl⟩
theorem eX10_lookOf_129 : eb_at mX10_lookOf 129 130 (.istore_n 2) 1 := ⟨by decide +kernel, rfl⟩
theorem eX10_lookOf_130 : eb_at mX10_lookOf 130 133 (.iinc 3 1) 3 := ⟨by decide +kernel, rfl⟩
theorem eX10_lookOf_133 : eb_at mX10_lookOf 133 136 (.goto (-120)) 3 := ⟨by decide +kernel, rfl⟩
theorem eX10_lookOf_136 : eb_at mX10_lookOf 136 137 (.iload_n 1) 1 := ⟨by decide +kernel, rfl⟩
theorem eX10_lookOf_137 : eb_at mX10_lookOf 137 138 (.ireturn) 1 := ⟨by decide +kernel, rfl⟩
theorem eX10_measure_0 : eb_at mX10_measure 0 1 (.aload_n 0) 1 := ⟨by decide +kernel, rfl⟩
theorem eX10_measure_1 : eb_at mX10_measure 1 2 (.iconst 1) 1 := ⟨by decide +kernel, rfl⟩
theorem eX10_measure_2 : eb_at mX10_measure 2 3 (.iload_n 1) 1 := ⟨by decide +kernel, rfl⟩
theorem eX10_measure_3 : eb_at mX10_measure 3 4 (.iconst 1) 1 := ⟨by decide +kernel, rfl⟩
theorem eX10_measure_4 : eb_at mX10_measure 4 7 (.sipush 200) 3 := ⟨by decide +kernel, rfl⟩
theorem eX10_measure_7 : eb_cv mX10_measure 7 10 mX10_becomes 4 := ⟨190, (RX10, TX10, 29), by decide +kernel, rfl, wd_951, wd_953, wd_41, by decide, rfl, rfl, okX10_becomes⟩
theorem eX10_measure_10 : eb_at mX10_measure 10 11 (.ireturn) 1 := ⟨by decide +kernel, rfl⟩
theorem eX10_measureWords_0 : eb_at mX10_measureWords 0 1 (.iconst 0) 1 := ⟨by decide +kernel, rfl⟩
theorem eX10_measureWords_1 : eb_at mX10_measureWords 1 2 (.istore_n 1) 1 := ⟨by decide +kernel, rfl⟩
theorem eX10_measureWords_2 : eb_at mX10_measureWords 2 3 (.iload_n 1) 1 := ⟨by decide +kernel, rfl⟩
theorem eX10_measureWords_3 : eb_at mX10_measureWords 3 4 (.aload_n 0) 1 := ⟨by decide +kernel, rfl⟩
theorem eX10_measureWords_4 : eb_gf mX10_measureWords 4 7 9 0 := ⟨7, (RX10, TX10, 29), by decide +kernel, rfl, rfl, by decide, wd_704⟩
theorem eX10_measureWords_7 : eb_at mX10_measureWords 7 8 (.iconst 0) 1 := ⟨by decide +kernel, rfl⟩
theorem eX10_measureWords_8 : eb_at mX10_measureWords 8 9 (.iaload) 1 := ⟨by decide +kernel, rfl⟩
theorem eX10_measureWords_9 : eb_at mX10_measureWords 9 12 (.if_icmp .ge 20) 3 := ⟨by decide +kernel, rfl⟩
theorem eX10_measureWords_12 : eb_at mX10_measureWords 12 13 (.aload_n 0) 1 := ⟨by decide +kernel, rfl⟩
theorem eX10_measureWords_13 : eb_gf mX10_measureWords 13 16 9 10 := ⟨25, (RX10, TX10, 29), by decide +kernel, rfl, rfl, by decide, wd_714⟩
theorem eX10_measureWords_16 : eb_at mX10_measureWords 16 17 (.iload_n 1) 1 := ⟨by decide +kernel, rfl⟩
theorem eX10_measureWords_17 : eb_at mX10_measureWords 17 18 (.aload_n 0) 1 := ⟨by decide +kernel, rfl⟩
theorem eX10_measureWords_18 : eb_at mX10_measureWords 18 19 (.iload_n 1) 1 := ⟨by decide +kernel, rfl⟩
theorem eX10_measureWords_19 : eb_cv mX10_measureWords 19 22 mX10_wordWidth 1 := ⟨123, (RX10, TX10, 29), by decide +kernel, rfl, wd_843, wd_845, wd_24, by decide, rfl, rfl, okX10_wordWidth⟩
theorem eX10_measureWords_22 : eb_at mX10_measureWords 22 23 (.iastore) 1 := ⟨by decide +kernel, rfl⟩
theorem eX10_measureWords_23 : eb_at mX10_measureWords 23 26 (.iinc 1 1) 3 := ⟨by decide +kernel, rfl⟩
theorem eX10_measureWords_26 : eb_at mX10_measureWords 26 29 (.goto (-24)) 3 := ⟨by decide +kernel, rfl⟩
theorem eX10_measureWords_29 : eb_at mX10_measureWords 29 30 (.return_) 1 := ⟨by decide +kernel, rfl⟩
theorem eX10_moveWord_0 : eb_at mX10_moveWord 0 1 (.aload_n 0) 1 := ⟨by decide +kernel, rfl⟩
theorem eX10_moveWord_1 : eb_gf mX10_moveWord 1 4 9 0 := ⟨7, (RX10, TX10, 29), by decide +kernel, rfl, rfl, by decide, wd_704⟩
theorem eX10_moveWord_4 : eb_at mX10_moveWord 4 5 (.iconst 5) 1 := ⟨by decide +kernel, rfl⟩
theorem eX10_moveWord_5 : eb_at mX10_moveWord 5 6 (.iload_n 1) 1 := ⟨by decide +kernel, rfl⟩
theorem eX10_moveWord_6 : eb_at mX10_moveWord 6 7 (.iadd) 1 := ⟨by decide +kernel, rfl⟩
theorem eX10_moveWord_7 : eb_at mX10_moveWord 7 8 (.aload_n 0) 1 := ⟨by decide +kernel, rfl⟩
theorem eX10_moveWord_8 : eb_gf mX10_moveWord 8 11 9 0 := ⟨7, (RX10, TX10, 29), by decide +kernel, rfl, rfl, by decide, wd_704⟩
theorem eX10_moveWord_11 : eb_at mX10_moveWord 11 12 (.iconst 5) 1 := ⟨by decide +kernel, rfl⟩
theorem eX10_moveWord_12 : eb_at mX10_moveWord 12 13 (.iload_n 2) 1 := ⟨by decide +kernel, rfl⟩
theorem eX10_moveWord_13 : eb_at mX10_moveWord 13 14 (.iadd) 1 := ⟨by decide +kernel, rfl⟩
theorem eX10_moveWord_14 : eb_at mX10_moveWord 14 15 (.iaload) 1 := ⟨by decide +kernel, rfl⟩
theorem eX10_moveWord_15 : eb_at mX10_moveWord 15 16 (.iastore) 1 := ⟨by decide +kernel, rfl⟩
theorem eX10_moveWord_16 : eb_at mX10_moveWord 16 17 (.iconst 0) 1 := ⟨by decide +kernel, rfl⟩
theorem eX10_moveWord_17 : eb_at mX10_moveWord 17 18 (.istore_n 3) 1 := ⟨by decide +kernel, rfl⟩
theorem eX10_moveWord_18 : eb_at mX10_moveWord 18 19 (.iload_n 3) 1 := ⟨by decide +kernel, rfl⟩
theorem eX10_moveWord_19 : eb_at mX10_moveWord 19 21 (.bipush 12) 2 := ⟨by decide +kernel, rfl⟩
theorem eX10_moveWord_21 : eb_at mX10_moveWord 21 24 (.if_icmp .ge 37) 3 := ⟨by decide +kernel, rfl⟩
theorem eX10_moveWord_24 : eb_at mX10_moveWord 24 25 (.aload_n 0) 1 := ⟨by decide +kernel, rfl⟩
theorem eX10_moveWord_25 : eb_gf mX10_moveWord 25 28 9 0 := ⟨7, (RX10, TX10, 29), by decide +kernel, rfl, rfl, by decide, wd_704⟩
theorem eX10_moveWord_28 : eb_at mX10_moveWord 28 30 (.bipush 45) 2 := ⟨by decide +kernel, rfl⟩
theorem eX10_moveWord_30 : eb_at mX10_moveWord 30 32 (.bipush 12) 2 := ⟨by decide +kernel, rfl⟩
theorem eX10_moveWord_32 : eb_at mX10_moveWord 32 33 (.iload_n 1) 1 := ⟨by decide +kernel, rfl⟩
theorem eX10_moveWord_33 : eb_at mX10_moveWord 33 34 (.imul) 1 := ⟨by decide +kernel, rfl⟩
theorem eX10_moveWord_34 : eb_at mX10_moveWord 34 35 (.iadd) 1 := ⟨by decide +kernel, rfl⟩
theorem eX10_moveWord_35 : eb_at mX10_moveWord 35 36 (.iload_n 3) 1 := ⟨by decide +kernel, rfl⟩
theorem eX10_moveWord_36 : eb_at mX10_moveWord 36 37 (.iadd) 1 := ⟨by decide +kernel, rfl⟩
theorem eX10_moveWord_37 : eb_at mX10_moveWord 37 38 (.aload_n 0) 1 := ⟨by decide +kernel, rfl⟩
theorem eX10_moveWord_38 : eb_gf mX10_moveWord 38 41 9 0 := ⟨7, (RX10, TX10, 29), by decide +kernel, rfl, rfl, by decide, wd_704⟩
theorem eX10_moveWord_41 : eb_at mX10_moveWord 41 43 (.bipush 45) 2 := ⟨by decide +kernel, rfl⟩
theorem eX10_moveWord_43 : eb_at mX10_moveWord 43 45 (.bipush 12) 2 := ⟨by decide +kernel, rfl⟩
theorem eX10_moveWord_45 : eb_at mX10_moveWord 45 46 (.iload_n 2) 1 := ⟨by decide +kernel, rfl⟩
theorem eX10_moveWord_46 : eb_at mX10_moveWord 46 47 (.imul) 1 := ⟨by decide +kernel, rfl⟩
theorem eX10_moveWord_47 : eb_at mX10_moveWord 47 48 (.iadd) 1 := ⟨by decide +kernel, rfl⟩
theorem eX10_moveWord_48 : eb_at mX10_moveWord 48 49 (.iload_n 3) 1 := ⟨by decide +kernel, rfl⟩
theorem eX10_moveWord_49 : eb_at mX10_moveWord 49 50 (.iadd) 1 := ⟨by decide +kernel, rfl⟩
theorem eX10_moveWord_50 : eb_at mX10_moveWord 50 51 (.iaload) 1 := ⟨by decide +kernel, rfl⟩
theorem eX10_moveWord_51 : eb_at mX10_moveWord 51 52 (.iastore) 1 := ⟨by decide +kernel, rfl⟩
theorem eX10_moveWord_52 : eb_at mX10_moveWord 52 55 (.iinc 3 1) 3 := ⟨by decide +kernel, rfl⟩
theorem eX10_moveWord_55 : eb_at mX10_moveWord 55 58 (.goto (-37)) 3 := ⟨by decide +kernel, rfl⟩
theorem eX10_moveWord_58 : eb_at mX10_moveWord 58 59 (.return_) 1 := ⟨by decide +kernel, rfl⟩
theorem eX10_note_0 : eb_at mX10_note 0 1 (.aload_n 0) 1 := ⟨by decide +kernel, rfl⟩
theorem eX10_note_1 : eb_gf mX10_note 1 4 9 2 := ⟨92, (RX10, TX10, 29), by decide +kernel, rfl, rfl, by decide, wd_706⟩
theorem eX10_note_4 : eb_at mX10_note 4 6 (.bipush 16) 2 := ⟨by decide +kernel, rfl⟩
theorem eX10_note_6 : eb_at mX10_note 6 9 (.if_icmp .ne 44) 3 := ⟨by decide +kernel, rfl⟩
theorem eX10_note_9 : eb_at mX10_note 9 10 (.iconst 0) 1 := ⟨by decide +kernel, rfl⟩
theorem eX10_note_10 : eb_at mX10_note 10 11 (.istore_n 1) 1 := ⟨by decide +kernel, rfl⟩
theorem eX10_note_11 : eb_at mX10_note 11 12 (.iload_n 1) 1 := ⟨by decide +kernel, rfl⟩
theorem eX10_note_12 : eb_at mX10_note 12 15 (.sipush 7875) 3 := ⟨by decide +kernel, rfl⟩
theorem eX10_note_15 : eb_at mX10_note 15 18 (.if_icmp .ge 25) 3 := ⟨by decide +kernel, rfl⟩
theorem eX10_note_18 : eb_at mX10_note 18 19 (.aload_n 0) 1 := ⟨by decide +kernel, rfl⟩
theorem eX10_note_19 : eb_gf mX10_note 19 22 9 1 := ⟨13, (RX10, TX10, 29), by decide +kernel, rfl, rfl, by decide, wd_705⟩
theorem eX10_note_22 : eb_at mX10_note 22 23 (.iload_n 1) 1 := ⟨by decide +kernel, rfl⟩
theorem eX10_note_23 : eb_at mX10_note 23 24 (.aload_n 0) 1 := ⟨by decide +kernel, rfl⟩
theorem eX10_note_24 : eb_gf mX10_note 24 27 9 1 := ⟨13, (RX10, TX10, 29), by decide +kernel, rfl, rfl, by decide, wd_705⟩
theorem eX10_note_27 : eb_at mX10_note 27 28 (.iload_n 1) 1 := ⟨by decide +kernel, rfl⟩
theorem eX10_note_28 : eb_at mX10_note 28 31 (.sipush 525) 3 := ⟨by decide +kernel, rfl⟩
theorem eX10_note_31 : eb_at mX10_note 31 32 (.iadd) 1 := ⟨by decide +kernel, rfl⟩
theorem eX10_note_32 : eb_at mX10_note 32 33 (.iaload) 1 := ⟨by decide +kernel, rfl⟩
theorem eX10_note_33 : eb_at mX10_note 33 34 (.iastore) 1 := ⟨by decide +kernel, rfl⟩
theorem eX10_note_34 : eb_at mX10_note 34 37 (.iinc 1 1) 3 := ⟨by decide +kernel, rfl⟩
theorem eX10_note_37 : eb_at mX10_note 37 40 (.goto (-26)) 3 := ⟨by decide +kernel, rfl⟩
theorem eX10_note_40 : eb_at mX10_note 40 41 (.aload_n 0) 1 := ⟨by decide +kernel, rfl⟩
theorem eX10_note_41 : eb_at mX10_note 41 42 (.dup) 1 := ⟨by decide +kernel, rfl⟩
theorem eX10_note_42 : eb_gf mX10_note 42 45 9 2 := ⟨92, (RX10, TX10, 29), by decide +kernel, rfl, rfl, by decide, wd_706⟩
theorem eX10_note_45 : eb_at mX10_note 45 46 (.iconst 1) 1 := ⟨by decide +kernel, rfl⟩
theorem eX10_note_46 : eb_at mX10_note 46 47 (.isub) 1 := ⟨by decide +kernel, rfl⟩
theorem eX10_note_47 : eb_pf mX10_note 47 50 9 2 false .int := ⟨92, (RX10, TX10, 29), by decide +kernel, rfl, rfl, by decide, wd_706, rfl, by decide +kernel, fun h => absurd h (by decide)⟩
theorem eX10_note_50 : eb_at mX10_note 50 51 (.iconst 0) 1 := ⟨by decide +kernel, rfl⟩
theorem eX10_note_51 : eb_at mX10_note 51 52 (.istore_n 1) 1 := ⟨by decide +kernel, rfl⟩
theorem eX10_note_52 : eb_at mX10_note 52 53 (.iload_n 1) 1 := ⟨by decide +kernel, rfl⟩
theorem eX10_note_53 : eb_at mX10_note 53 56 (.sipush 525) 3 := ⟨by decide +kernel, rfl⟩
theorem eX10_note_56 : eb_at mX10_note 56 59 (.if_icmp .ge 30) 3 := ⟨by decide +kernel, rfl⟩
theorem eX10_note_59 : eb_at mX10_note 59 60 (.aload_n 0) 1 := ⟨by decide +kernel, rfl⟩
theorem eX10_note_60 : eb_gf mX10_note 60 63 9 1 := ⟨13, (RX10, TX10, 29), by decide +kernel, rfl, rfl, by decide, wd_705⟩
theorem eX10_note_63 : eb_at mX10_note 63 66 (.sipush 525) 3 := ⟨by decide +kernel, rfl⟩
theorem eX10_note_66 : eb_at mX10_note 66 67 (.aload_n 0) 1 := ⟨by decide +kernel, rfl⟩
theorem eX10_note_67 : eb_gf mX10_note 67 70 9 2 := ⟨92, (RX10, TX10, 29), by decide +kernel, rfl, rfl, by decide, wd_706⟩
theorem eX10_note_70 : eb_at mX10_note 70 71 (.imul) 1 := ⟨by decide +kernel, rfl⟩
theorem eX10_note_71 : eb_at mX10_note 71 72 (.iload_n 1) 1 := ⟨by decide +kernel, rfl⟩
theorem eX10_note_72 : eb_at mX10_note 72 73 (.iadd) 1 := ⟨by decide +kernel, rfl⟩
theorem eX10_note_73 : eb_at mX10_note 73 74 (.aload_n 0) 1 := ⟨by decide +kernel, rfl⟩
theorem eX10_note_74 : eb_gf mX10_note 74 77 9 0 := ⟨7, (RX10, TX10, 29), by decide +kernel, rfl, rfl, by decide, wd_704⟩
theorem eX10_note_77 : eb_at mX10_note 77 78 (.iload_n 1) 1 := ⟨by decide +kernel, rfl⟩
theorem eX10_note_78 : eb_at mX10_note 78 79 (.iaload) 1 := ⟨by decide +kernel, rfl⟩
theorem eX10_note_79 : eb_at mX10_note 79 80 (.iastore) 1 := ⟨by decide +kernel, rfl⟩
theorem eX10_note_80 : eb_at mX10_note 80 83 (.iinc 1 1) 3 := ⟨by decide +kernel, rfl⟩
theorem eX10_note_83 : eb_at mX10_note 83 86 (.goto (-31)) 3 := ⟨by decide +kernel, rfl⟩
theorem eX10_note_86 : eb_at mX10_note 86 87 (.aload_n 0) 1 := ⟨by decide +kernel, rfl⟩
theorem eX10_note_87 : eb_at mX10_note 87 88 (.dup) 1 := ⟨by decide +kernel, rfl⟩
theorem eX10_note_88 : eb_gf mX10_note 88 91 9 2 := ⟨92, (RX10, TX10, 29), by decide +kernel, rfl, rfl, by decide, wd_706⟩
theorem eX10_note_91 : eb_at mX10_note 91 92 (.iconst 1) 1 := ⟨by decide +kernel, rfl⟩
theorem eX10_note_92 : eb_at mX10_note 92 93 (.iadd) 1 := ⟨by decide +kernel, rfl⟩
theorem eX10_note_93 : eb_pf mX10_note 93 96 9 2 false .int := ⟨92, (RX10, TX10, 29), by decide +kernel, rfl, rfl, by decide, wd_706, rfl, by decide +kernel, fun h => absurd h (by decide)⟩
theorem eX10_note_96 : eb_at mX10_note 96 97 (.return_) 1 := ⟨by decide +kernel, rfl⟩
end
section
theorem eX10_ownerBy_0 : eb_at mX10_ownerBy 0 1 (.iconst (-1)) 1 := ⟨by decide +kernel, rfl⟩
theorem eX10_ownerBy_1 : eb_at mX10_ownerBy 1 2 (.istore_n 3) 1 := ⟨by decide +kernel, rfl⟩
theorem eX10_ownerBy_2 : eb_at mX10_ownerBy 2 4 (.ldc 126) 2 := ⟨by decide +kernel, rfl⟩
theorem eX10_ownerBy_4 : eb_at mX10_ownerBy 4 6 (.istore 4) 2 := ⟨by decide +kernel, rfl⟩
theorem eX10_ownerBy_6 : eb_at mX10_ownerBy 6 7 (.iconst 0) 1 := ⟨by decide +kernel, rfl⟩
theorem eX10_ownerBy_7 : eb_at mX10_ownerBy 7 9 (.istore 5) 2 := ⟨by decide +kernel, rfl⟩
theorem eX10_ownerBy_9 : eb_at mX10_ownerBy 9 11 (.iload 5) 2 := ⟨by decide +kernel, rfl⟩
theorem eX10_ownerBy_11 : eb_at mX10_ownerBy 11 12 (.iload_n 2) 1 := ⟨by decide +kernel, rfl⟩
theorem eX10_ownerBy_12 : eb_at mX10_ownerBy 12 15 (.if_icmp .gt 61) 3 := ⟨by decide +kernel, rfl⟩
theorem eX10_ownerBy_15 : eb_at mX10_ownerBy 15 16 (.aload_n 0) 1 := ⟨by decide +kernel, rfl⟩
theorem eX10_ownerBy_16 : eb_gf mX10_ownerBy 16 19 9 13 := ⟨34, (RX10, TX10, 29), by decide +kernel, rfl, rfl, by decide, wd_717⟩
theorem eX10_ownerBy_19 : eb_at mX10_ownerBy 19 21 (.iload 5) 2 := ⟨by decide +kernel, rfl⟩
theorem eX10_ownerBy_21 : eb_at mX10_ownerBy 21 22 (.iaload) 1 := ⟨by decide +kernel, rfl⟩
theorem eX10_ownerBy_22 : eb_at mX10_ownerBy 22 23 (.aload_n 0) 1 := ⟨by decide +kernel, rfl⟩
theorem eX10_ownerBy_23 : eb_gf mX10_ownerBy 23 26 9 12 := ⟨31, (RX10, TX10, 29), by decide +kernel, rfl, rfl, by decide, wd_716⟩
theorem eX10_ownerBy_26 : eb_at mX10_ownerBy 26 28 (.bipush 41) 2 := ⟨by decide +kernel, rfl⟩
theorem eX10_ownerBy_28 : eb_at mX10_ownerBy 28 30 (.iload 5) 2 := ⟨by decide +kernel, rfl⟩
theorem eX10_ownerBy_30 : eb_at mX10_ownerBy 30 31 (.imul) 1 := ⟨by decide +kernel, rfl⟩
theorem eX10_ownerBy_31 : eb_at mX10_ownerBy 31 32 (.iload_n 1) 1 := ⟨by decide +kernel, rfl⟩
theorem eX10_ownerBy_32 : eb_at mX10_ownerBy 32 33 (.iadd) 1 := ⟨by decide +kernel, rfl⟩
theorem eX10_ownerBy_33 : eb_at mX10_ownerBy 33 34 (.iaload) 1 := ⟨by decide +kernel, rfl⟩
theorem eX10_ownerBy_34 : eb_at mX10_ownerBy 34 35 (.iadd) 1 := ⟨by decide +kernel, rfl⟩
theorem eX10_ownerBy_35 : eb_at mX10_ownerBy 35 37 (.istore 6) 2 := ⟨by decide +kernel, rfl⟩
theorem eX10_ownerBy_37 : eb_at mX10_ownerBy 37 39 (.iload 6) 2 := ⟨by decide +kernel, rfl⟩
theorem eX10_ownerBy_39 : eb_at mX10_ownerBy 39 41 (.iload 4) 2 := ⟨by decide +kernel, rfl⟩
theorem eX10_ownerBy_41 : eb_at mX10_ownerBy 41 44 (.if_icmp .ge 8) 3 := ⟨by decide +kernel, rfl⟩
theorem eX10_ownerBy_44 : eb_at mX10_ownerBy 44 46 (.iload 5) 2 := ⟨by decide +kernel, rfl⟩
theorem eX10_ownerBy_46 : eb_at mX10_ownerBy 46 49 (.goto 4) 3 := ⟨by decide +kernel, rfl⟩
theorem eX10_ownerBy_49 : eb_at mX10_ownerBy 49 50 (.iload_n 3) 1 := ⟨by decide +kernel, rfl⟩
theorem eX10_ownerBy_50 : eb_at mX10_ownerBy 50 51 (.istore_n 3) 1 := ⟨by decide +kernel, rfl⟩
theorem eX10_ownerBy_51 : eb_at mX10_ownerBy 51 53 (.iload 6) 2 := ⟨by decide +kernel, rfl⟩
theorem eX10_ownerBy_53 : eb_at mX10_ownerBy 53 55 (.iload 4) 2 := ⟨by decide +kernel, rfl⟩
theorem eX10_ownerBy_55 : eb_at mX10_ownerBy 55 58 (.if_icmp .ge 8) 3 := ⟨by decide +kernel, rfl⟩
theorem eX10_ownerBy_58 : eb_at mX10_ownerBy 58 60 (.iload 6) 2 := ⟨by decide +kernel, rfl⟩
theorem eX10_ownerBy_60 : eb_at mX10_ownerBy 60 63 (.goto 5) 3 := ⟨by decide +kernel, rfl⟩
theorem eX10_ownerBy_63 : eb_at mX10_ownerBy 63 65 (.iload 4) 2 := ⟨by decide +kernel, rfl⟩
theorem eX10_ownerBy_65 : eb_at mX10_ownerBy 65 67 (.istore 4) 2 := ⟨by decide +kernel, rfl⟩
theorem eX10_ownerBy_67 : eb_at mX10_ownerBy 67 70 (.iinc 5 1) 3 := ⟨by decide +kernel, rfl⟩
theorem eX10_ownerBy_70 : eb_at mX10_ownerBy 70 73 (.goto (-61)) 3 := ⟨by decide +kernel, rfl⟩
theorem eX10_ownerBy_73 : eb_at mX10_ownerBy 73 74 (.iload_n 3) 1 := ⟨by decide +kernel, rfl⟩
theorem eX10_ownerBy_74 : eb_at mX10_ownerBy 74 75 (.ireturn) 1 := ⟨by decide +kernel, rfl⟩
theorem eX10_putIn_0 : eb_at mX10_putIn 0 1 (.aload_n 0) 1 := ⟨by decide +kernel, rfl⟩
theorem eX10_putIn_1 : eb_gf mX10_putIn 1 4 9 0 := ⟨7, (RX10, TX10, 29), by decide +kernel, rfl, rfl, by decide, wd_704⟩
theorem eX10_putIn_4 : eb_at mX10_putIn 4 5 (.iconst 0) 1 := ⟨by decide +kernel, rfl⟩
theorem eX10_putIn_5 : eb_at mX10_putIn 5 6 (.iaload) 1 := ⟨by decide +kernel, rfl⟩
theorem eX10_putIn_6 : eb_at mX10_putIn 6 7 (.istore_n 2) 1 := ⟨by decide +kernel, rfl⟩
theorem eX10_putIn_7 : eb_at mX10_putIn 7 8 (.iload_n 2) 1 := ⟨by decide +kernel, rfl⟩
theorem eX10_putIn_8 : eb_at mX10_putIn 8 9 (.iload_n 1) 1 := ⟨by decide +kernel, rfl⟩
theorem eX10_putIn_9 : eb_at mX10_putIn 9 12 (.if_icmp .le 17) 3 := ⟨by decide +kernel, rfl⟩
theorem eX10_putIn_12 : eb_at mX10_putIn 12 13 (.aload_n 0) 1 := ⟨by decide +kernel, rfl⟩
theorem eX10_putIn_13 : eb_at mX10_putIn 13 14 (.iload_n 2) 1 := ⟨by decide +kernel, rfl⟩
theorem eX10_putIn_14 : eb_at mX10_putIn 14 15 (.iload_n 2) 1 := ⟨by decide +kernel, rfl⟩
theorem eX10_putIn_15 : eb_at mX10_putIn 15 16 (.iconst 1) 1 := ⟨by decide +kernel, rfl⟩
theorem eX10_putIn_16 : eb_at mX10_putIn 16 17 (.isub) 1 := ⟨by decide +kernel, rfl⟩
theorem eX10_putIn_17 : eb_cv mX10_putIn 17 20 mX10_moveWord 2 := ⟨181, (RX10, TX10, 29), by decide +kernel, rfl, wd_939, wd_941, wd_40, by decide, rfl, rfl, okX10_moveWord⟩
theorem eX10_putIn_20 : eb_at mX10_putIn 20 23 (.iinc 2 (-1)) 3 := ⟨by decide +kernel, rfl⟩
theorem eX10_putIn_23 : eb_at mX10_putIn 23 26 (.goto (-16)) 3 := ⟨by decide +kernel, rfl⟩
theorem eX10_putIn_26 : eb_at mX10_putIn 26 27 (.aload_n 0) 1 := ⟨by decide +kernel, rfl⟩
theorem eX10_putIn_27 : eb_at mX10_putIn 27 28 (.iload_n 1) 1 := ⟨by decide +kernel, rfl⟩
theorem eX10_putIn_28 : eb_at mX10_putIn 28 29 (.iconst 0) 1 := ⟨by decide +kernel, rfl⟩
theorem eX10_putIn_29 : eb_cv mX10_putIn 29 32 mX10_takeWord 2 := ⟨102, (RX10, TX10, 29), by decide +kernel, rfl, wd_821, wd_823, wd_21, by decide, rfl, rfl, okX10_takeWord⟩
theorem eX10_putIn_32 : eb_at mX10_putIn 32 33 (.aload_n 0) 1 := ⟨by decide +kernel, rfl⟩
theorem eX10_putIn_33 : eb_gf mX10_putIn 33 36 9 0 := ⟨7, (RX10, TX10, 29), by decide +kernel, rfl, rfl, by decide, wd_704⟩
theorem eX10_putIn_36 : eb_at mX10_putIn 36 37 (.iconst 0) 1 := ⟨by decide +kernel, rfl⟩
theorem eX10_putIn_37 : eb_at mX10_putIn 37 38 (.dup2) 1 := ⟨by decide +kernel, rfl⟩
theorem eX10_putIn_38 : eb_at mX10_putIn 38 39 (.iaload) 1 := ⟨by decide +kernel, rfl⟩
theorem eX10_putIn_39 : eb_at mX10_putIn 39 40 (.iconst 1) 1 := ⟨by decide +kernel, rfl⟩
theorem eX10_putIn_40 : eb_at mX10_putIn 40 41 (.iadd) 1 := ⟨by decide +kernel, rfl⟩
theorem eX10_putIn_41 : eb_at mX10_putIn 41 42 (.iastore) 1 := ⟨by decide +kernel, rfl⟩
theorem eX10_putIn_42 : eb_at mX10_putIn 42 43 (.return_) 1 := ⟨by decide +kernel, rfl⟩
theorem eX10_readOne_0 : eb_at mX10_readOne 0 1 (.aload_n 0) 1 := ⟨by decide +kernel, rfl⟩
theorem eX10_readOne_1 : eb_cv mX10_readOne 1 4 mX10_readWords 0 := ⟨95, (RX10, TX10, 29), by decide +kernel, rfl, wd_807, wd_809, wd_18, by decide, rfl, rfl, okX10_readWords⟩
theorem eX10_readOne_4 : eb_at mX10_readOne 4 5 (.istore_n 1) 1 := ⟨by decide +kernel, rfl⟩
theorem eX10_readOne_5 : eb_at mX10_readOne 5 6 (.iload_n 1) 1 := ⟨by decide +kernel, rfl⟩
theorem eX10_readOne_6 : eb_at mX10_readOne 6 9 (.ifCond .ge 7) 3 := ⟨by decide +kernel, rfl⟩
theorem eX10_readOne_9 : eb_at mX10_readOne 9 10 (.iload_n 1) 1 := ⟨by decide +kernel, rfl⟩
theorem eX10_readOne_10 : eb_at mX10_readOne 10 13 (.goto 17) 3 := ⟨by decide +kernel, rfl⟩
theorem eX10_readOne_13 : eb_at mX10_readOne 13 14 (.aload_n 0) 1 := ⟨by decide +kernel, rfl⟩
theorem eX10_readOne_14 : eb_gf mX10_readOne 14 17 9 9 := ⟨81, (RX10, TX10, 29), by decide +kernel, rfl, rfl, by decide, wd_713⟩
theorem eX10_readOne_17 : eb_at mX10_readOne 17 18 (.iconst 1) 1 := ⟨by decide +kernel, rfl⟩
theorem eX10_readOne_18 : eb_at mX10_readOne 18 21 (.if_icmp .ne 7) 3 := ⟨by decide +kernel, rfl⟩
theorem eX10_readOne_21 : eb_at mX10_readOne 21 22 (.iconst 0) 1 := ⟨by decide +kernel, rfl⟩
theorem eX10_readOne_22 : eb_at mX10_readOne 22 25 (.goto 5) 3 := ⟨by decide +kernel, rfl⟩
theorem eX10_readOne_25 : eb_at mX10_readOne 25 27 (.ldc 177) 2 := ⟨by decide +kernel, rfl⟩
theorem eX10_readOne_27 : eb_at mX10_readOne 27 28 (.ireturn) 1 := ⟨by decide +kernel, rfl⟩
theorem eX10_readWords_0 : eb_at mX10_readWords 0 1 (.aload_n 0) 1 := ⟨by decide +kernel, rfl⟩
theorem eX10_readWords_1 : eb_gf mX10_readWords 1 4 9 5 := ⟨77, (RX10, TX10, 29), by decide +kernel, rfl, rfl, by decide, wd_709⟩
theorem eX10_readWords_4 : eb_at mX10_readWords 4 5 (.istore_n 1) 1 := ⟨by decide +kernel, rfl⟩
theorem eX10_readWords_5 : eb_at mX10_readWords 5 6 (.aload_n 0) 1 := ⟨by decide +kernel, rfl⟩
theorem eX10_readWords_6 : eb_at mX10_readWords 6 7 (.iconst 0) 1 := ⟨by decide +kernel, rfl⟩
theorem eX10_readWords_7 : eb_pf mX10_readWords 7 10 9 5 false .int := ⟨77, (RX10, TX10, 29), by decide +kernel, rfl, rfl, by decide, wd_709, rfl, by decide +kernel, fun h => absurd h (by decide)⟩
theorem eX10_readWords_10 : eb_at mX10_readWords 10 11 (.aload_n 0) 1 := ⟨by decide +kernel, rfl⟩
theorem eX10_readWords_11 : eb_at mX10_readWords 11 12 (.iconst 0) 1 := ⟨by decide +kernel, rfl⟩
theorem eX10_readWords_12 : eb_pf mX10_readWords 12 15 9 9 false .int := ⟨81, (RX10, TX10, 29), by decide +kernel, rfl, rfl, by decide, wd_713, rfl, by decide +kernel, fun h => absurd h (by decide)⟩
theorem eX10_readWords_15 : eb_at mX10_readWords 15 16 (.aload_n 0) 1 := ⟨by decide +kernel, rfl⟩
theorem eX10_readWords_16 : eb_at mX10_readWords 16 17 (.iconst (-1)) 1 := ⟨by decide +kernel, rfl⟩
theorem eX10_readWords_17 : eb_pf mX10_readWords 17 20 9 6 false .int := ⟨66, (RX10, TX10, 29), by decide +kernel, rfl, rfl, by decide, wd_710, rfl, by decide +kernel, fun h => absurd h (by decide)⟩
theorem eX10_readWords_20 : eb_at mX10_readWords 20 21 (.iconst 0) 1 := ⟨by decide +kernel, rfl⟩
theorem eX10_readWords_21 : eb_at mX10_readWords 21 22 (.istore_n 2) 1 := ⟨by decide +kernel, rfl⟩
theorem eX10_readWords_22 : eb_at mX10_readWords 22 23 (.iconst 0) 1 := ⟨by decide +kernel, rfl⟩
theorem eX10_readWords_23 : eb_at mX10_readWords 23 24 (.istore_n 3) 1 := ⟨by decide +kernel, rfl⟩
theorem eX10_readWords_24 : eb_at mX10_readWords 24 25 (.iload_n 3) 1 := ⟨by decide +kernel, rfl⟩
theorem eX10_readWords_25 : eb_at mX10_readWords 25 26 (.iload_n 1) 1 := ⟨by decide +kernel, rfl⟩
theorem eX10_readWords_26 : eb_at mX10_readWords 26 29 (.if_icmp .ge 135) 3 := ⟨by decide +kernel, rfl⟩
theorem eX10_readWords_29 : eb_at mX10_readWords 29 30 (.aload_n 0) 1 := ⟨by decide +kernel, rfl⟩
theorem eX10_readWords_30 : eb_gf mX10_readWords 30 33 9 4 := ⟨16, (RX10, TX10, 29), by decide +kernel, rfl, rfl, by decide, wd_708⟩
theorem eX10_readWords_33 : eb_at mX10_readWords 33 34 (.iload_n 3) 1 := ⟨by decide +kernel, rfl⟩
theorem eX10_readWords_34 : eb_at mX10_readWords 34 35 (.iaload) 1 := ⟨by decide +kernel, rfl⟩
theorem eX10_readWords_35 : eb_at mX10_readWords 35 37 (.istore 4) 2 := ⟨by decide +kernel, rfl⟩
theorem eX10_readWords_37 : eb_at mX10_readWords 37 39 (.iload 4) 2 := ⟨by decide +kernel, rfl⟩
theorem eX10_readWords_39 : eb_at mX10_readWords 39 41 (.bipush 32) 2 := ⟨by decide +kernel, rfl⟩
theorem eX10_readWords_41 : eb_at mX10_readWords 41 44 (.if_icmp .ne 8) 3 := ⟨by decide +kernel, rfl⟩
theorem eX10_readWords_44 : eb_at mX10_readWords 44 45 (.iconst 0) 1 := ⟨by decide +kernel, rfl⟩
theorem eX10_readWords_45 : eb_at mX10_readWords 45 46 (.istore_n 2) 1 := ⟨by decide +kernel, rfl⟩
theorem eX10_readWords_46 : eb_at mX10_readWords 46 49 (.goto 109) 3 := ⟨by decide +kernel, rfl⟩
theorem eX10_readWords_49 : eb_at mX10_readWords 49 51 (.iload 4) 2 := ⟨by decide +kernel, rfl⟩
theorem eX10_readWords_51 : eb_at mX10_readWords 51 52 (.i2l) 1 := ⟨by decide +kernel, rfl⟩
theorem eX10_readWords_52 : eb_at mX10_readWords 52 55 (.ldc2_w 84) 3 := ⟨by decide +kernel, rfl⟩
theorem eX10_readWords_55 : eb_at mX10_readWords 55 58 (.ldc2_w 86) 3 := ⟨by decide +kernel, rfl⟩
theorem eX10_readWords_58 : eb_cs mX10_readWords 58 61 mX10_in 3 := ⟨70, by decide +kernel, rfl, wd_798, wd_799, by decide, okX10_in⟩
theorem eX10_readWords_61 : eb_at mX10_readWords 61 64 (.ifCond .ne 10) 3 := ⟨by decide +kernel, rfl⟩
theorem eX10_readWords_64 : eb_at mX10_readWords 64 65 (.aload_n 0) 1 := ⟨by decide +kernel, rfl⟩
theorem eX10_readWords_65 : eb_at mX10_readWords 65 66 (.iconst 1) 1 := ⟨by decide +kernel, rfl⟩
theorem eX10_readWords_66 : eb_at mX10_readWords 66 67 (.iload_n 3) 1 := ⟨by decide +kernel, rfl⟩
theorem eX10_readWords_67 : eb_cv mX10_readWords 67 70 mX10_wrongs 2 := ⟨88, (RX10, TX10, 29), by decide +kernel, rfl, wd_813, wd_815, wd_19, by decide, rfl, rfl, okX10_wrongs⟩
theorem eX10_readWords_70 : eb_at mX10_readWords 70 71 (.ireturn) 1 := ⟨by decide +kernel, rfl⟩
theorem eX10_readWords_71 : eb_at mX10_readWords 71 72 (.iload_n 2) 1 := ⟨by decide +kernel, rfl⟩
theorem eX10_readWords_72 : eb_at mX10_readWords 72 74 (.bipush 12) 2 := ⟨by decide +kernel, rfl⟩
theorem eX10_readWords_74 : eb_at mX10_readWords 74 77 (.if_icmp .ne 10) 3 := ⟨by decide +kernel, rfl⟩
theorem eX10_readWords_77 : eb_at mX10_readWords 77 78 (.aload_n 0) 1 := ⟨by decide +kernel, rfl⟩
theorem eX10_readWords_78 : eb_at mX10_readWords 78 79 (.iconst 2) 1 := ⟨by decide +kernel, rfl⟩
theorem eX10_readWords_79 : eb_at mX10_readWords 79 80 (.iload_n 3) 1 := ⟨by decide +kernel, rfl⟩
theorem eX10_readWords_80 : eb_cv mX10_readWords 80 83 mX10_wrongs 2 := ⟨88, (RX10, TX10, 29), by decide +kernel, rfl, wd_813, wd_815, wd_19, by decide, rfl, rfl, okX10_wrongs⟩
theorem eX10_readWords_83 : eb_at mX10_readWords 83 84 (.ireturn) 1 := ⟨by decide +kernel, rfl⟩
theorem eX10_readWords_84 : eb_at mX10_readWords 84 85 (.iload_n 2) 1 := ⟨by decide +kernel, rfl⟩
theorem eX10_readWords_85 : eb_at mX10_readWords 85 88 (.ifCond .ne 19) 3 := ⟨by decide +kernel, rfl⟩
theorem eX10_readWords_88 : eb_at mX10_readWords 88 89 (.aload_n 0) 1 := ⟨by decide +kernel, rfl⟩
theorem eX10_readWords_89 : eb_gf mX10_readWords 89 92 9 9 := ⟨81, (RX10, TX10, 29), by decide +kernel, rfl, rfl, by decide, wd_713⟩
theorem eX10_readWords_92 : eb_at mX10_readWords 92 94 (.bipush 40) 2 := ⟨by decide +kernel, rfl⟩
theorem eX10_readWords_94 : eb_at mX10_readWords 94 97 (.if_icmp .ne 10) 3 := ⟨by decide +kernel, rfl⟩
theorem eX10_readWords_97 : eb_at mX10_readWords 97 98 (.aload_n 0) 1 := ⟨by decide +kernel, rfl⟩
theorem eX10_readWords_98 : eb_at mX10_readWords 98 99 (.iconst 3) 1 := ⟨by decide +kernel, rfl⟩
theorem eX10_readWords_99 : eb_at mX10_readWords 99 100 (.iload_n 3) 1 := ⟨by decide +kernel, rfl⟩
theorem eX10_readWords_100 : eb_cv mX10_readWords 100 103 mX10_wrongs 2 := ⟨88, (RX10, TX10, 29), by decide +kernel, rfl, wd_813, wd_815, wd_19, by decide, rfl, rfl, okX10_wrongs⟩
theorem eX10_readWords_103 : eb_at mX10_readWords 103 104 (.ireturn) 1 := ⟨by decide +kernel, rfl⟩
theorem eX10_readWords_104 : eb_at mX10_readWords 104 105 (.aload_n 0) 1 := ⟨by decide +kernel, rfl⟩
theorem eX10_readWords_105 : eb_at mX10_readWords 105 106 (.dup) 1 := ⟨by decide +kernel, rfl⟩
theorem eX10_readWords_106 : eb_gf mX10_readWords 106 109 9 9 := ⟨81, (RX10, TX10, 29), by decide +kernel, rfl, rfl, by decide, wd_713⟩
theorem eX10_readWords_109 : eb_at mX10_readWords 109 110 (.iload_n 2) 1 := ⟨by decide +kernel, rfl⟩
theorem eX10_readWords_110 : eb_at mX10_readWords 110 113 (.ifCond .ne 7) 3 := ⟨by decide +kernel, rfl⟩
theorem eX10_readWords_113 : eb_at mX10_readWords 113 114 (.iconst 1) 1 := ⟨by decide +kernel, rfl⟩
theorem eX10_readWords_114 : eb_at mX10_readWords 114 117 (.goto 4) 3 := ⟨by decide +kernel, rfl⟩
theorem eX10_readWords_117 : eb_at mX10_readWords 117 118 (.iconst 0) 1 := ⟨by decide +kernel, rfl⟩
theorem eX10_readWords_118 : eb_at mX10_readWords 118 119 (.iadd) 1 := ⟨by decide +kernel, rfl⟩
theorem eX10_readWords_119 : eb_pf mX10_readWords 119 122 9 9 false .int := ⟨81, (RX10, TX10, 29), by decide +kernel, rfl, rfl, by decide, wd_713, rfl, by decide +kernel, fun h => absurd h (by decide)⟩
theorem eX10_readWords_122 : eb_at mX10_readWords 122 123 (.aload_n 0) 1 := ⟨by decide +kernel, rfl⟩
theorem eX10_readWords_123 : eb_gf mX10_readWords 123 126 9 8 := ⟨22, (RX10, TX10, 29), by decide +kernel, rfl, rfl, by decide, wd_712⟩
theorem eX10_readWords_126 : eb_at mX10_readWords 126 128 (.bipush 12) 2 := ⟨by decide +kernel, rfl⟩
theorem eX10_readWords_128 : eb_at mX10_readWords 128 129 (.aload_n 0) 1 := ⟨by decide +kernel, rfl⟩
theorem eX10_readWords_129 : eb_gf mX10_readWords 129 132 9 9 := ⟨81, (RX10, TX10, 29), by decide +kernel, rfl, rfl, by decide, wd_713⟩
theorem eX10_readWords_132 : eb_at mX10_readWords 132 133 (.iconst 1) 1 := ⟨by decide +kernel, rfl⟩
theorem eX10_readWords_133 : eb_at mX10_readWords 133 134 (.isub) 1 := ⟨by decide +kernel, rfl⟩
theorem eX10_readWords_134 : eb_at mX10_readWords 134 135 (.imul) 1 := ⟨by decide +kernel, rfl⟩
theorem eX10_readWords_135 : eb_at mX10_readWords 135 136 (.iload_n 2) 1 := ⟨by decide +kernel, rfl⟩
theorem eX10_readWords_136 : eb_at mX10_readWords 136 137 (.iadd) 1 := ⟨by decide +kernel, rfl⟩
theorem eX10_readWords_137 : eb_at mX10_readWords 137 139 (.iload 4) 2 := ⟨by decide +kernel, rfl⟩
theorem eX10_readWords_139 : eb_at mX10_readWords 139 140 (.iastore) 1 := ⟨by decide +kernel, rfl⟩
theorem eX10_readWords_140 : eb_at mX10_readWords 140 143 (.iinc 2 1) 3 := ⟨by decide +kernel, rfl⟩
theorem eX10_readWords_143 : eb_at mX10_readWords 143 144 (.aload_n 0) 1 := ⟨by decide +kernel, rfl⟩
theorem eX10_readWords_144 : eb_gf mX10_readWords 144 147 9 7 := ⟨19, (RX10, TX10, 29), by decide +kernel, rfl, rfl, by decide, wd_711⟩
theorem eX10_readWords_147 : eb_at mX10_readWords 147 148 (.aload_n 0) 1 := ⟨by decide +kernel, rfl⟩
theorem eX10_readWords_148 : eb_gf mX10_readWords 148 151 9 9 := ⟨81, (RX10, TX10, 29), by decide +kernel, rfl, rfl, by decide, wd_713⟩
theorem eX10_readWords_151 : eb_at mX10_readWords 151 152 (.iconst 1) 1 := ⟨by decide +kernel, rfl⟩
theorem eX10_readWords_152 : eb_at mX10_readWords 152 153 (.isub) 1 := ⟨by decide +kernel, rfl⟩
theorem eX10_readWords_153 : eb_at mX10_readWords 153 154 (.iload_n 2) 1 := ⟨by decide +kernel, rfl⟩
theorem eX10_readWords_154 : eb_at mX10_readWords 154 155 (.iastore) 1 := ⟨by decide +kernel, rfl⟩
theorem eX10_readWords_155 : eb_at mX10_readWords 155 158 (.iinc 3 1) 3 := ⟨by decide +kernel, rfl⟩
theorem eX10_readWords_158 : eb_at mX10_readWords 158 161 (.goto (-134)) 3 := ⟨by decide +kernel, rfl⟩
theorem eX10_readWords_161 : eb_at mX10_readWords 161 162 (.iconst 0) 1 := ⟨by decide +kernel, rfl⟩
theorem eX10_readWords_162 : eb_at mX10_readWords 162 163 (.ireturn) 1 := ⟨by decide +kernel, rfl⟩
theorem eX10_rivers_0 : eb_at mX10_rivers 0 1 (.aload_n 0) 1 := ⟨by decide +kernel, rfl⟩
theorem eX10_rivers_1 : eb_cv mX10_rivers 1 4 mX10_layLines 0 := ⟨146, (RX10, TX10, 29), by decide +kernel, rfl, wd_854, wd_856, wd_26, by decide, rfl, rfl, okX10_layLines⟩
theorem eX10_rivers_4 : eb_at mX10_rivers 4 5 (.iconst 0) 1 := ⟨by decide +kernel, rfl⟩
theorem eX10_rivers_5 : eb_at mX10_rivers 5 6 (.istore_n 1) 1 := ⟨by decide +kernel, rfl⟩
theorem eX10_rivers_6 : eb_at mX10_rivers 6 7 (.iconst 1) 1 := ⟨by decide +kernel, rfl⟩
theorem eX10_rivers_7 : eb_at mX10_rivers 7 8 (.istore_n 2) 1 := ⟨by decide +kernel, rfl⟩
theorem eX10_rivers_8 : eb_at mX10_rivers 8 9 (.iload_n 2) 1 := ⟨by decide +kernel, rfl⟩
theorem eX10_rivers_9 : eb_at mX10_rivers 9 10 (.aload_n 0) 1 := ⟨by decide +kernel, rfl⟩
theorem eX10_rivers_10 : eb_gf mX10_rivers 10 13 9 16 := ⟨140, (RX10, TX10, 29), by decide +kernel, rfl, rfl, by decide, wd_720⟩
theorem eX10_rivers_13 : eb_at mX10_rivers 13 16 (.if_icmp .ge 115) 3 := ⟨by decide +kernel, rfl⟩
theorem eX10_rivers_16 : eb_at mX10_rivers 16 17 (.aload_n 0) 1 := ⟨by decide +kernel, rfl⟩
theorem eX10_rivers_17 : eb_gf mX10_rivers 17 20 9 15 := ⟨40, (RX10, TX10, 29), by decide +kernel, rfl, rfl, by decide, wd_719⟩
theorem eX10_rivers_20 : eb_at mX10_rivers 20 21 (.iload_n 2) 1 := ⟨by decide +kernel, rfl⟩
theorem eX10_rivers_21 : eb_at mX10_rivers 21 22 (.iaload) 1 := ⟨by decide +kernel, rfl⟩
theorem eX10_rivers_22 : eb_at mX10_rivers 22 23 (.iconst 1) 1 := ⟨by decide +kernel, rfl⟩
theorem eX10_rivers_23 : eb_at mX10_rivers 23 24 (.iadd) 1 := ⟨by decide +kernel, rfl⟩
theorem eX10_rivers_24 : eb_at mX10_rivers 24 25 (.istore_n 3) 1 := ⟨by decide +kernel, rfl⟩
theorem eX10_rivers_25 : eb_at mX10_rivers 25 26 (.iload_n 3) 1 := ⟨by decide +kernel, rfl⟩
theorem eX10_rivers_26 : eb_at mX10_rivers 26 27 (.aload_n 0) 1 := ⟨by decide +kernel, rfl⟩
theorem eX10_rivers_27 : eb_gf mX10_rivers 27 30 9 15 := ⟨40, (RX10, TX10, 29), by decide +kernel, rfl, rfl, by decide, wd_719⟩
theorem eX10_rivers_30 : eb_at mX10_rivers 30 31 (.iload_n 2) 1 := ⟨by decide +kernel, rfl⟩
theorem eX10_rivers_31 : eb_at mX10_rivers 31 32 (.iconst 1) 1 := ⟨by decide +kernel, rfl⟩
theorem eX10_rivers_32 : eb_at mX10_rivers 32 33 (.iadd) 1 := ⟨by decide +kernel, rfl⟩
theorem eX10_rivers_33 : eb_at mX10_rivers 33 34 (.iaload) 1 := ⟨by decide +kernel, rfl⟩
theorem eX10_rivers_34 : eb_at mX10_rivers 34 37 (.if_icmp .ge 88) 3 := ⟨by decide +kernel, rfl⟩
theorem eX10_rivers_37 : eb_at mX10_rivers 37 38 (.aload_n 0) 1 := ⟨by decide +kernel, rfl⟩
theorem eX10_rivers_38 : eb_gf mX10_rivers 38 41 9 15 := ⟨40, (RX10, TX10, 29), by decide +kernel, rfl, rfl, by decide, wd_719⟩
theorem eX10_rivers_41 : eb_at mX10_rivers 41 42 (.iload_n 2) 1 := ⟨by decide +kernel, rfl⟩
theorem eX10_rivers_42 : eb_at mX10_rivers 42 43 (.iconst 1) 1 := ⟨by decide +kernel, rfl⟩
theorem eX10_rivers_43 : eb_at mX10_rivers 43 44 (.isub) 1 := ⟨by decide +kernel, rfl⟩
theorem eX10_rivers_44 : eb_at mX10_rivers 44 45 (.iaload) 1 := ⟨by decide +kernel, rfl⟩
theorem eX10_rivers_45 : eb_at mX10_rivers 45 46 (.iconst 1) 1 := ⟨by decide +kernel, rfl⟩
theorem eX10_rivers_46 : eb_at mX10_rivers 46 47 (.iadd) 1 := ⟨by decide +kernel, rfl⟩
theorem eX10_rivers_47 : eb_at mX10_rivers 47 49 (.istore 4) 2 := ⟨by decide +kernel, rfl⟩
theorem eX10_rivers_49 : eb_at mX10_rivers 49 51 (.iload 4) 2 := ⟨by decide +kernel, rfl⟩
theorem eX10_rivers_51 : eb_at mX10_rivers 51 52 (.aload_n 0) 1 := ⟨by decide +kernel, rfl⟩
theorem eX10_rivers_52 : eb_gf mX10_rivers 52 55 9 15 := ⟨40, (RX10, TX10, 29), by decide +kernel, rfl, rfl, by decide, wd_719⟩
theorem eX10_rivers_55 : eb_at mX10_rivers 55 56 (.iload_n 2) 1 := ⟨by decide +kernel, rfl⟩
theorem eX10_rivers_56 : eb_at mX10_rivers 56 57 (.iaload) 1 := ⟨by decide +kernel, rfl⟩
theorem eX10_rivers_57 : eb_at mX10_rivers 57 60 (.if_icmp .ge 59) 3 := ⟨by decide +kernel, rfl⟩
theorem eX10_rivers_60 : eb_at mX10_rivers 60 61 (.iload_n 1) 1 := ⟨by decide +kernel, rfl⟩
theorem eX10_rivers_61 : eb_at mX10_rivers 61 62 (.aload_n 0) 1 := ⟨by decide +kernel, rfl⟩
theorem eX10_rivers_62 : eb_gf mX10_rivers 62 65 9 11 := ⟨28, (RX10, TX10, 29), by decide +kernel, rfl, rfl, by decide, wd_715⟩
theorem eX10_rivers_65 : eb_at mX10_rivers 65 66 (.iload_n 3) 1 := ⟨by decide +kernel, rfl⟩
theorem eX10_rivers_66 : eb_at mX10_rivers 66 67 (.iaload) 1 := ⟨by decide +kernel, rfl⟩
theorem eX10_rivers_67 : eb_at mX10_rivers 67 68 (.aload_n 0) 1 := ⟨by decide +kernel, rfl⟩
theorem eX10_rivers_68 : eb_gf mX10_rivers 68 71 9 11 := ⟨28, (RX10, TX10, 29), by decide +kernel, rfl, rfl, by decide, wd_715⟩
theorem eX10_rivers_71 : eb_at mX10_rivers 71 72 (.aload_n 0) 1 := ⟨by decide +kernel, rfl⟩
theorem eX10_rivers_72 : eb_gf mX10_rivers 72 75 9 15 := ⟨40, (RX10, TX10, 29), by decide +kernel, rfl, rfl, by decide, wd_719⟩
theorem eX10_rivers_75 : eb_at mX10_rivers 75 76 (.iload_n 2) 1 := ⟨by decide +kernel, rfl⟩
theorem eX10_rivers_76 : eb_at mX10_rivers 76 77 (.iaload) 1 := ⟨by decide +kernel, rfl⟩
theorem eX10_rivers_77 : eb_at mX10_rivers 77 78 (.iaload) 1 := ⟨by decide +kernel, rfl⟩
theorem eX10_rivers_78 : eb_at mX10_rivers 78 79 (.isub) 1 := ⟨by decide +kernel, rfl⟩
theorem eX10_rivers_79 : eb_at mX10_rivers 79 80 (.aload_n 0) 1 := ⟨by decide +kernel, rfl⟩
theorem eX10_rivers_80 : eb_gf mX10_rivers 80 83 9 11 := ⟨28, (RX10, TX10, 29), by decide +kernel, rfl, rfl, by decide, wd_715⟩
theorem eX10_rivers_83 : eb_at mX10_rivers 83 85 (.iload 4) 2 := ⟨by decide +kernel, rfl⟩
theorem eX10_rivers_85 : eb_at mX10_rivers 85 86 (.iaload) 1 := ⟨by decide +kernel, rfl⟩
theorem eX10_rivers_86 : eb_at mX10_rivers 86 87 (.aload_n 0) 1 := ⟨by decide +kernel, rfl⟩
theorem eX10_rivers_87 : eb_gf mX10_rivers 87 90 9 11 := ⟨28, (RX10, TX10, 29), by decide +kernel, rfl, rfl, by decide, wd_715⟩
theorem eX10_rivers_90 : eb_at mX10_rivers 90 91 (.aload_n 0) 1 := ⟨by decide +kernel, rfl⟩
theorem eX10_rivers_91 : eb_gf mX10_rivers 91 94 9 15 := ⟨40, (RX10, TX10, 29), by decide +kernel, rfl, rfl, by decide, wd_719⟩
theorem eX10_rivers_94 : eb_at mX10_rivers 94 95 (.iload_n 2) 1 := ⟨by decide +kernel, rfl⟩
theorem eX10_rivers_95 : eb_at mX10_rivers 95 96 (.iconst 1) 1 := ⟨by decide +kernel, rfl⟩
theorem eX10_rivers_96 : eb_at mX10_rivers 96 97 (.isub) 1 := ⟨by decide +kernel, rfl⟩
theorem eX10_rivers_97 : eb_at mX10_rivers 97 98 (.iaload) 1 := ⟨by decide +kernel, rfl⟩
theorem eX10_rivers_98 : eb_at mX10_rivers 98 99 (.iaload) 1 := ⟨by decide +kernel, rfl⟩
theorem eX10_rivers_99 : eb_at mX10_rivers 99 100 (.isub) 1 := ⟨by decide +kernel, rfl⟩
theorem eX10_rivers_100 : eb_at mX10_rivers 100 103 (.if_icmp .ne 7) 3 := ⟨by decide +kernel, rfl⟩
theorem eX10_rivers_103 : eb_at mX10_rivers 103 104 (.iconst 1) 1 := ⟨by decide +kernel, rfl⟩
theorem eX10_rivers_104 : eb_at mX10_rivers 104 107 (.goto 4) 3 := ⟨by decide +kernel, rfl⟩
theorem eX10_rivers_107 : eb_at mX10_rivers 107 108 (.iconst 0) 1 := ⟨by decide +kernel, rfl⟩
theorem eX10_rivers_108 : eb_at mX10_rivers 108 109 (.iadd) 1 := ⟨by decide +kernel, rfl⟩
theorem eX10_rivers_109 : eb_at mX10_rivers 109 110 (.istore_n 1) 1 := ⟨by decide +kernel, rfl⟩
theorem eX10_rivers_110 : eb_at mX10_rivers 110 113 (.iinc 4 1) 3 := ⟨by decide +kernel, rfl⟩
theorem eX10_rivers_113 : eb_at mX10_rivers 113 116 (.goto (-64)) 3 := ⟨by decide +kernel, rfl⟩
theorem eX10_rivers_116 : eb_at mX10_rivers 116 119 (.iinc 3 1) 3 := ⟨by decide +kernel, rfl⟩
theorem eX10_rivers_119 : eb_at mX10_rivers 119 122 (.goto (-94)) 3 := ⟨by decide +kernel, rfl⟩
theorem eX10_rivers_122 : eb_at mX10_rivers 122 125 (.iinc 2 1) 3 := ⟨by decide +kernel, rfl⟩
theorem eX10_rivers_125 : eb_at mX10_rivers 125 128 (.goto (-117)) 3 := ⟨by decide +kernel, rfl⟩
theorem eX10_rivers_128 : eb_at mX10_rivers 128 129 (.iload_n 1) 1 := ⟨by decide +kernel, rfl⟩
theorem eX10_rivers_129 : eb_at mX10_rivers 129 130 (.ireturn) 1 := ⟨by decide +kernel, rfl⟩
theorem eX10_root_0 : eb_at mX10_root 0 1 (.iconst 0) 1 := ⟨by decide +kernel, rfl⟩
theorem eX10_root_1 : eb_at mX10_root 1 2 (.istore_n 1) 1 := ⟨by decide +kernel, rfl⟩
theorem eX10_root_2 : eb_at mX10_root 2 5 (.sipush 512) 3 := ⟨by decide +kernel, rfl⟩
theorem eX10_root_5 : eb_at mX10_root 5 6 (.istore_n 2) 1 := ⟨by decide +kernel, rfl⟩
theorem eX10_root_6 : eb_at mX10_root 6 7 (.iload_n 2) 1 := ⟨by decide +kernel, rfl⟩
theorem eX10_root_7 : eb_at mX10_root 7 10 (.ifCond .le 29) 3 := ⟨by decide +kernel, rfl⟩
theorem eX10_root_10 : eb_at mX10_root 10 11 (.iload_n 1) 1 := ⟨by decide +kernel, rfl⟩
theorem eX10_root_11 : eb_at mX10_root 11 12 (.iload_n 1) 1 := ⟨by decide +kernel, rfl⟩
theorem eX10_root_12 : eb_at mX10_root 12 13 (.iload_n 2) 1 := ⟨by decide +kernel, rfl⟩
theorem eX10_root_13 : eb_at mX10_root 13 14 (.iadd) 1 := ⟨by decide +kernel, rfl⟩
theorem eX10_root_14 : eb_at mX10_root 14 15 (.iload_n 1) 1 := ⟨by decide +kernel, rfl⟩
theorem eX10_root_15 : eb_at mX10_root 15 16 (.iload_n 2) 1 := ⟨by decide +kernel, rfl⟩
theorem eX10_root_16 : eb_at mX10_root 16 17 (.iadd) 1 := ⟨by decide +kernel, rfl⟩
theorem eX10_root_17 : eb_at mX10_root 17 18 (.imul) 1 := ⟨by decide +kernel, rfl⟩
theorem eX10_root_18 : eb_at mX10_root 18 19 (.iload_n 0) 1 := ⟨by decide +kernel, rfl⟩
theorem eX10_root_19 : eb_at mX10_root 19 22 (.if_icmp .gt 7) 3 := ⟨by decide +kernel, rfl⟩
theorem eX10_root_22 : eb_at mX10_root 22 23 (.iload_n 2) 1 := ⟨by decide +kernel, rfl⟩
theorem eX10_root_23 : eb_at mX10_root 23 26 (.goto 4) 3 := ⟨by decide +kernel, rfl⟩
theorem eX10_root_26 : eb_at mX10_root 26 27 (.iconst 0) 1 := ⟨by decide +kernel, rfl⟩
theorem eX10_root_27 : eb_at mX10_root 27 28 (.iadd) 1 := ⟨by decide +kernel, rfl⟩
theorem eX10_root_28 : eb_at mX10_root 28 29 (.istore_n 1) 1 := ⟨by decide +kernel, rfl⟩
theorem eX10_root_29 : eb_at mX10_root 29 30 (.iload_n 2) 1 := ⟨by decide +kernel, rfl⟩
theorem eX10_root_30 : eb_at mX10_root 30 31 (.iconst 2) 1 := ⟨by decide +kernel, rfl⟩
theorem eX10_root_31 : eb_at mX10_root 31 32 (.idiv) 1 := ⟨by decide +kernel, rfl⟩
theorem eX10_root_32 : eb_at mX10_root 32 33 (.istore_n 2) 1 := ⟨by decide +kernel, rfl⟩
theorem eX10_root_33 : eb_at mX10_root 33 36 (.goto (-27)) 3 := ⟨by decide +kernel, rfl⟩
theorem eX10_root_36 : eb_at mX10_root 36 37 (.iload_n 1) 1 := ⟨by decide +kernel, rfl⟩
theorem eX10_root_37 : eb_at mX10_root 37 38 (.ireturn) 1 := ⟨by decide +kernel, rfl⟩
theorem eX10_rule_0 : eb_at mX10_rule 0 1 (.aload_n 0) 1 := ⟨by decide +kernel, rfl⟩
theorem eX10_rule_1 : eb_at mX10_rule 1 2 (.iconst 2) 1 := ⟨by decide +kernel, rfl⟩
theorem eX10_rule_2 : eb_at mX10_rule 2 3 (.iload_n 1) 1 := ⟨by decide +kernel, rfl⟩
theorem eX10_rule_3 : eb_at mX10_rule 3 4 (.iconst 0) 1 := ⟨by decide +kernel, rfl⟩
theorem eX10_rule_4 : eb_at mX10_rule 4 5 (.iconst 4) 1 := ⟨by decide +kernel, rfl⟩
theorem eX10_rule_5 : eb_cv mX10_rule 5 8 mX10_becomes 4 := ⟨190, (RX10, TX10, 29), by decide +kernel, rfl, wd_951, wd_953, wd_41, by decide, rfl, rfl, okX10_becomes⟩
theorem eX10_rule_8 : eb_at mX10_rule 8 9 (.ireturn) 1 := ⟨by decide +kernel, rfl⟩
theorem eX10_runsAt_0 : eb_at mX10_runsAt 0 1 (.aload_n 0) 1 := ⟨by decide +kernel, rfl⟩
theorem eX10_runsAt_1 : eb_cv mX10_runsAt 1 4 mX10_lay 0 := ⟨137, (RX10, TX10, 29), by decide +kernel, rfl, wd_858, wd_860, wd_27, by decide, rfl, rfl, okX10_lay⟩
theorem eX10_runsAt_4 : eb_at mX10_runsAt 4 5 (.iconst 0) 1 := ⟨by decide +kernel, rfl⟩
theorem eX10_runsAt_5 : eb_at mX10_runsAt 5 6 (.istore_n 2) 1 := ⟨by decide +kernel, rfl⟩
theorem eX10_runsAt_6 : eb_at mX10_runsAt 6 7 (.iconst (-1)) 1 := ⟨by decide +kernel, rfl⟩
theorem eX10_runsAt_7 : eb_at mX10_runsAt 7 8 (.istore_n 3) 1 := ⟨by decide +kernel, rfl⟩
theorem eX10_runsAt_8 : eb_at mX10_runsAt 8 9 (.iload_n 1) 1 := ⟨by decide +kernel, rfl⟩
theorem eX10_runsAt_9 : eb_at mX10_runsAt 9 10 (.iconst 1) 1 := ⟨by decide +kernel, rfl⟩
theorem eX10_runsAt_10 : eb_at mX10_runsAt 10 11 (.iadd) 1 := ⟨by decide +kernel, rfl⟩
theorem eX10_runsAt_11 : eb_at mX10_runsAt 11 13 (.istore 4) 2 := ⟨by decide +kernel, rfl⟩
theorem eX10_runsAt_13 : eb_at mX10_runsAt 13 15 (.iload 4) 2 := ⟨by decide +kernel, rfl⟩
theorem eX10_runsAt_15 : eb_at mX10_runsAt 15 16 (.aload_n 0) 1 := ⟨by decide +kernel, rfl⟩
theorem eX10_runsAt_16 : eb_gf mX10_runsAt 16 19 9 0 := ⟨7, (RX10, TX10, 29), by decide +kernel, rfl, rfl, by decide, wd_704⟩
theorem eX10_runsAt_19 : eb_at mX10_runsAt 19 20 (.iconst 0) 1 := ⟨by decide +kernel, rfl⟩
theorem eX10_runsAt_20 : eb_at mX10_runsAt 20 21 (.iaload) 1 := ⟨by decide +kernel, rfl⟩
theorem eX10_runsAt_21 : eb_at mX10_runsAt 21 24 (.if_icmp .gt 35) 3 := ⟨by decide +kernel, rfl⟩
theorem eX10_runsAt_24 : eb_at mX10_runsAt 24 25 (.aload_n 0) 1 := ⟨by decide +kernel, rfl⟩
theorem eX10_runsAt_25 : eb_at mX10_runsAt 25 27 (.iload 4) 2 := ⟨by decide +kernel, rfl⟩
theorem eX10_runsAt_27 : eb_at mX10_runsAt 27 28 (.iload_n 1) 1 := ⟨by decide +kernel, rfl⟩
theorem eX10_runsAt_28 : eb_cv mX10_runsAt 28 31 mX10_ownerBy 2 := ⟨166, (RX10, TX10, 29), by decide +kernel, rfl, wd_910, wd_912, wd_37, by decide, rfl, rfl, okX10_ownerBy⟩
theorem eX10_runsAt_31 : eb_at mX10_runsAt 31 33 (.istore 5) 2 := ⟨by decide +kernel, rfl⟩
theorem eX10_runsAt_33 : eb_at mX10_runsAt 33 34 (.iload_n 2) 1 := ⟨by decide +kernel, rfl⟩
theorem eX10_runsAt_34 : eb_at mX10_runsAt 34 36 (.iload 5) 2 := ⟨by decide +kernel, rfl⟩
theorem eX10_runsAt_36 : eb_at mX10_runsAt 36 37 (.iload_n 3) 1 := ⟨by decide +kernel, rfl⟩
theorem eX10_runsAt_37 : eb_at mX10_runsAt 37 40 (.if_icmp .ne 7) 3 := ⟨by decide +kernel, rfl⟩
theorem eX10_runsAt_40 : eb_at mX10_runsAt 40 41 (.iconst 0) 1 := ⟨by decide +kernel, rfl⟩
theorem eX10_runsAt_41 : eb_at mX10_runsAt 41 44 (.goto 4) 3 := ⟨by decide +kernel, rfl⟩
theorem eX10_runsAt_44 : eb_at mX10_runsAt 44 45 (.iconst 1) 1 := ⟨by decide +kernel, rfl⟩
theorem eX10_runsAt_45 : eb_at mX10_runsAt 45 46 (.iadd) 1 := ⟨by decide +kernel, rfl⟩
theorem eX10_runsAt_46 : eb_at mX10_runsAt 46 47 (.istore_n 2) 1 := ⟨by decide +kernel, rfl⟩
theorem eX10_runsAt_47 : eb_at mX10_runsAt 47 49 (.iload 5) 2 := ⟨by decide +kernel, rfl⟩
theorem eX10_runsAt_49 : eb_at mX10_runsAt 49 50 (.istore_n 3) 1 := ⟨by decide +kernel, rfl⟩
theorem eX10_runsAt_50 : eb_at mX10_runsAt 50 53 (.iinc 4 1) 3 := ⟨by decide +kernel, rfl⟩
theorem eX10_runsAt_53 : eb_at mX10_runsAt 53 56 (.goto (-40)) 3 := ⟨by decide +kernel, rfl⟩
theorem eX10_runsAt_56 : eb_at mX10_runsAt 56 57 (.iload_n 2) 1 := ⟨by decide +kernel, rfl⟩
theorem eX10_runsAt_57 : eb_at mX10_runsAt 57 58 (.ireturn) 1 := ⟨by decide +kernel, rfl⟩
theorem eX10_see_0 : eb_at mX10_see 0 1 (.aload_n 0) 1 := ⟨by decide +kernel, rfl⟩
theorem eX10_see_1 : eb_at mX10_see 1 2 (.iload_n 1) 1 := ⟨by decide +kernel, rfl⟩
theorem eX10_see_2 : eb_cv mX10_see 2 5 mX10_isEnd 1 := ⟨169, (RX10, TX10, 29), by decide +kernel, rfl, wd_901, wd_903, wd_35, by decide, rfl, rfl, okX10_isEnd⟩
theorem eX10_see_5 : eb_at mX10_see 5 8 (.ifCond .ne 6) 3 := ⟨by decide +kernel, rfl⟩
theorem eX10_see_8 : eb_at mX10_see 8 10 (.ldc 157) 2 := ⟨by decide +kernel, rfl⟩
theorem eX10_see_10 : eb_at mX10_see 10 11 (.ireturn) 1 := ⟨by decide +kernel, rfl⟩
theorem eX10_see_11 : eb_at mX10_see 11 12 (.aload_n 0) 1 := ⟨by decide +kernel, rfl⟩
theorem eX10_see_12 : eb_gf mX10_see 12 15 9 19 := ⟨225, (RX10, TX10, 29), by decide +kernel, rfl, rfl, by decide, wd_723⟩
theorem eX10_see_15 : eb_at mX10_see 15 17 (.bipush 6) 2 := ⟨by decide +kernel, rfl⟩
theorem eX10_see_17 : eb_at mX10_see 17 20 (.if_icmp .ne 6) 3 := ⟨by decide +kernel, rfl⟩
theorem eX10_see_20 : eb_at mX10_see 20 22 (.ldc 80) 2 := ⟨by decide +kernel, rfl⟩
theorem eX10_see_22 : eb_at mX10_see 22 23 (.ireturn) 1 := ⟨by decide +kernel, rfl⟩
theorem eX10_see_23 : eb_at mX10_see 23 24 (.aload_n 0) 1 := ⟨by decide +kernel, rfl⟩
theorem eX10_see_24 : eb_gf mX10_see 24 27 9 18 := ⟨46, (RX10, TX10, 29), by decide +kernel, rfl, rfl, by decide, wd_722⟩
theorem eX10_see_27 : eb_at mX10_see 27 28 (.iconst 2) 1 := ⟨by decide +kernel, rfl⟩
theorem eX10_see_28 : eb_at mX10_see 28 29 (.aload_n 0) 1 := ⟨by decide +kernel, rfl⟩
theorem eX10_see_29 : eb_gf mX10_see 29 32 9 19 := ⟨225, (RX10, TX10, 29), by decide +kernel, rfl, rfl, by decide, wd_723⟩
theorem eX10_see_32 : eb_at mX10_see 32 33 (.imul) 1 := ⟨by decide +kernel, rfl⟩
theorem eX10_see_33 : eb_at mX10_see 33 34 (.iload_n 1) 1 := ⟨by decide +kernel, rfl⟩
theorem eX10_see_34 : eb_at mX10_see 34 35 (.iastore) 1 := ⟨by decide +kernel, rfl⟩
theorem eX10_see_35 : eb_at mX10_see 35 36 (.aload_n 0) 1 := ⟨by decide +kernel, rfl⟩
theorem eX10_see_36 : eb_gf mX10_see 36 39 9 18 := ⟨46, (RX10, TX10, 29), by decide +kernel, rfl, rfl, by decide, wd_722⟩
theorem eX10_see_39 : eb_at mX10_see 39 40 (.iconst 2) 1 := ⟨by decide +kernel, rfl⟩
theorem eX10_see_40 : eb_at mX10_see 40 41 (.aload_n 0) 1 := ⟨by decide +kernel, rfl⟩
theorem eX10_see_41 : eb_gf mX10_see 41 44 9 19 := ⟨225, (RX10, TX10, 29), by decide +kernel, rfl, rfl, by decide, wd_723⟩
theorem eX10_see_44 : eb_at mX10_see 44 45 (.imul) 1 := ⟨by decide +kernel, rfl⟩
theorem eX10_see_45 : eb_at mX10_see 45 46 (.iconst 1) 1 := ⟨by decide +kernel, rfl⟩
theorem eX10_see_46 : eb_at mX10_see 46 47 (.iadd) 1 := ⟨by decide +kernel, rfl⟩
theorem eX10_see_47 : eb_at mX10_see 47 48 (.iload_n 2) 1 := ⟨by decide +kernel, rfl⟩
theorem eX10_see_48 : eb_at mX10_see 48 51 (.ifCond .eq 7) 3 := ⟨by decide +kernel, rfl⟩
theorem eX10_see_51 : eb_at mX10_see 51 52 (.iconst 1) 1 := ⟨by decide +kernel, rfl⟩
theorem eX10_see_52 : eb_at mX10_see 52 55 (.goto 4) 3 := ⟨by decide +kernel, rfl⟩
theorem eX10_see_55 : eb_at mX10_see 55 56 (.iconst 0) 1 := ⟨by decide +kernel, rfl⟩
theorem eX10_see_56 : eb_at mX10_see 56 57 (.iastore) 1 := ⟨by decide +kernel, rfl⟩
theorem eX10_see_57 : eb_at mX10_see 57 58 (.aload_n 0) 1 := ⟨by decide +kernel, rfl⟩
theorem eX10_see_58 : eb_at mX10_see 58 59 (.dup) 1 := ⟨by decide +kernel, rfl⟩
theorem eX10_see_59 : eb_gf mX10_see 59 62 9 19 := ⟨225, (RX10, TX10, 29), by decide +kernel, rfl, rfl, by decide, wd_723⟩
theorem eX10_see_62 : eb_at mX10_see 62 63 (.iconst 1) 1 := ⟨by decide +kernel, rfl⟩
theorem eX10_see_63 : eb_at mX10_see 63 64 (.iadd) 1 := ⟨by decide +kernel, rfl⟩
theorem eX10_see_64 : eb_pf mX10_see 64 67 9 19 false .int := ⟨225, (RX10, TX10, 29), by decide +kernel, rfl, rfl, by decide, wd_723, rfl, by decide +kernel, fun h => absurd h (by decide)⟩
theorem eX10_see_67 : eb_at mX10_see 67 68 (.aload_n 0) 1 := ⟨by decide +kernel, rfl⟩
theorem eX10_see_68 : eb_gf mX10_see 68 71 9 19 := ⟨225, (RX10, TX10, 29), by decide +kernel, rfl, rfl, by decide, wd_723⟩
theorem eX10_see_71 : eb_at mX10_see 71 72 (.ireturn) 1 := ⟨by decide +kernel, rfl⟩
theorem eX10_seed_0 : eb_at mX10_seed 0 1 (.iload_n 1) 1 := ⟨by decide +kernel, rfl⟩
theorem eX10_seed_1 : eb_at mX10_seed 1 4 (.ifCond .ge 6) 3 := ⟨by decide +kernel, rfl⟩
theorem eX10_seed_4 : eb_at mX10_seed 4 6 (.ldc 76) 2 := ⟨by decide +kernel, rfl⟩
theorem eX10_seed_6 : eb_at mX10_seed 6 7 (.ireturn) 1 := ⟨by decide +kernel, rfl⟩
theorem eX10_seed_7 : eb_at mX10_seed 7 8 (.aload_n 0) 1 := ⟨by decide +kernel, rfl⟩
theorem eX10_seed_8 : eb_gf mX10_seed 8 11 9 3 := ⟨194, (RX10, TX10, 29), by decide +kernel, rfl, rfl, by decide, wd_707⟩
theorem eX10_seed_11 : eb_at mX10_seed 11 12 (.istore_n 2) 1 := ⟨by decide +kernel, rfl⟩
theorem eX10_seed_12 : eb_at mX10_seed 12 13 (.aload_n 0) 1 := ⟨by decide +kernel, rfl⟩
theorem eX10_seed_13 : eb_at mX10_seed 13 14 (.iload_n 1) 1 := ⟨by decide +kernel, rfl⟩
theorem eX10_seed_14 : eb_pf mX10_seed 14 17 9 3 false .int := ⟨194, (RX10, TX10, 29), by decide +kernel, rfl, rfl, by decide, wd_707, rfl, by decide +kernel, fun h => absurd h (by decide)⟩
theorem eX10_seed_17 : eb_at mX10_seed 17 18 (.iload_n 2) 1 := ⟨by decide +kernel, rfl⟩
theorem eX10_seed_18 : eb_at mX10_seed 18 19 (.ireturn) 1 := ⟨by decide +kernel, rfl⟩
theorem eX10_take_0 : eb_at mX10_take 0 1 (.aload_n 0) 1 := ⟨by decide +kernel, rfl⟩
theorem eX10_take_1 : eb_at mX10_take 1 2 (.iload_n 1) 1 := ⟨by decide +kernel, rfl⟩
theorem eX10_take_2 : eb_cv mX10_take 2 5 mX10_isWord 1 := ⟨153, (RX10, TX10, 29), by decide +kernel, rfl, wd_837, wd_839, wd_23, by decide, rfl, rfl, okX10_isWord⟩
theorem eX10_take_5 : eb_at mX10_take 5 8 (.ifCond .ne 6) 3 := ⟨by decide +kernel, rfl⟩
theorem eX10_take_8 : eb_at mX10_take 8 10 (.ldc 157) 2 := ⟨by decide +kernel, rfl⟩
theorem eX10_take_10 : eb_at mX10_take 10 11 (.ireturn) 1 := ⟨by decide +kernel, rfl⟩
theorem eX10_take_11 : eb_at mX10_take 11 12 (.aload_n 0) 1 := ⟨by decide +kernel, rfl⟩
theorem eX10_take_12 : eb_cv mX10_take 12 15 mX10_note 0 := ⟨99, (RX10, TX10, 29), by decide +kernel, rfl, wd_817, wd_819, wd_20, by decide, rfl, rfl, okX10_note⟩
theorem eX10_take_15 : eb_at mX10_take 15 16 (.aload_n 0) 1 := ⟨by decide +kernel, rfl⟩
theorem eX10_take_16 : eb_at mX10_take 16 17 (.iload_n 1) 1 := ⟨by decide +kernel, rfl⟩
theorem eX10_take_17 : eb_cv mX10_take 17 20 mX10_wordWidth 1 := ⟨123, (RX10, TX10, 29), by decide +kernel, rfl, wd_843, wd_845, wd_24, by decide, rfl, rfl, okX10_wordWidth⟩
theorem eX10_take_20 : eb_at mX10_take 20 21 (.istore_n 2) 1 := ⟨by decide +kernel, rfl⟩
theorem eX10_take_21 : eb_at mX10_take 21 22 (.aload_n 0) 1 := ⟨by decide +kernel, rfl⟩
theorem eX10_take_22 : eb_gf mX10_take 22 25 9 0 := ⟨7, (RX10, TX10, 29), by decide +kernel, rfl, rfl, by decide, wd_704⟩
theorem eX10_take_25 : eb_at mX10_take 25 26 (.iconst 0) 1 := ⟨by decide +kernel, rfl⟩
theorem eX10_take_26 : eb_at mX10_take 26 27 (.dup2) 1 := ⟨by decide +kernel, rfl⟩
theorem eX10_take_27 : eb_at mX10_take 27 28 (.iaload) 1 := ⟨by decide +kernel, rfl⟩
theorem eX10_take_28 : eb_at mX10_take 28 29 (.iconst 1) 1 := ⟨by decide +kernel, rfl⟩
theorem eX10_take_29 : eb_at mX10_take 29 30 (.isub) 1 := ⟨by decide +kernel, rfl⟩
theorem eX10_take_30 : eb_at mX10_take 30 31 (.iastore) 1 := ⟨by decide +kernel, rfl⟩
theorem eX10_take_31 : eb_at mX10_take 31 32 (.iload_n 1) 1 := ⟨by decide +kernel, rfl⟩
theorem eX10_take_32 : eb_at mX10_take 32 33 (.istore_n 3) 1 := ⟨by decide +kernel, rfl⟩
theorem eX10_take_33 : eb_at mX10_take 33 34 (.iload_n 3) 1 := ⟨by decide +kernel, rfl⟩
theorem eX10_take_34 : eb_at mX10_take 34 35 (.aload_n 0) 1 := ⟨by decide +kernel, rfl⟩
theorem eX10_take_35 : eb_gf mX10_take 35 38 9 0 := ⟨7, (RX10, TX10, 29), by decide +kernel, rfl, rfl, by decide, wd_704⟩
theorem eX10_take_38 : eb_at mX10_take 38 39 (.iconst 0) 1 := ⟨by decide +kernel, rfl⟩
theorem eX10_take_39 : eb_at mX10_take 39 40 (.iaload) 1 := ⟨by decide +kernel, rfl⟩
theorem eX10_take_40 : eb_at mX10_take 40 43 (.if_icmp .ge 17) 3 := ⟨by decide +kernel, rfl⟩
theorem eX10_take_43 : eb_at mX10_take 43 44 (.aload_n 0) 1 := ⟨by decide +kernel, rfl⟩
theorem eX10_take_44 : eb_at mX10_take 44 45 (.iload_n 3) 1 := ⟨by decide +kernel, rfl⟩
theorem eX10_take_45 : eb_at mX10_take 45 46 (.iload_n 3) 1 := ⟨by decide +kernel, rfl⟩
theorem eX10_take_46 : eb_at mX10_take 46 47 (.iconst 1) 1 := ⟨by decide +kernel, rfl⟩
theorem eX10_take_47 : eb_at mX10_take 47 48 (.iadd) 1 := ⟨by decide +kernel, rfl⟩
theorem eX10_take_48 : eb_cv mX10_take 48 51 mX10_moveWord 2 := ⟨181, (RX10, TX10, 29), by decide +kernel, rfl, wd_939, wd_941, wd_40, by decide, rfl, rfl, okX10_moveWord⟩
theorem eX10_take_51 : eb_at mX10_take 51 54 (.iinc 3 1) 3 := ⟨by decide +kernel, rfl⟩
theorem eX10_take_54 : eb_at mX10_take 54 57 (.goto (-21)) 3 := ⟨by decide +kernel, rfl⟩
theorem eX10_take_57 : eb_at mX10_take 57 58 (.aload_n 0) 1 := ⟨by decide +kernel, rfl⟩
theorem eX10_take_58 : eb_at mX10_take 58 59 (.aload_n 0) 1 := ⟨by decide +kernel, rfl⟩
theorem eX10_take_59 : eb_gf mX10_take 59 62 9 0 := ⟨7, (RX10, TX10, 29), by decide +kernel, rfl, rfl, by decide, wd_704⟩
theorem eX10_take_62 : eb_at mX10_take 62 63 (.iconst 0) 1 := ⟨by decide +kernel, rfl⟩
theorem eX10_take_63 : eb_at mX10_take 63 64 (.iaload) 1 := ⟨by decide +kernel, rfl⟩
theorem eX10_take_64 : eb_cv mX10_take 64 67 mX10_clearWord 1 := ⟨106, (RX10, TX10, 29), by decide +kernel, rfl, wd_825, wd_827, wd_22, by decide, rfl, rfl, okX10_clearWord⟩
theorem eX10_take_67 : eb_at mX10_take 67 68 (.iload_n 2) 1 := ⟨by decide +kernel, rfl⟩
theorem eX10_take_68 : eb_at mX10_take 68 69 (.ireturn) 1 := ⟨by decide +kernel, rfl⟩
theorem eX10_takeWord_0 : eb_at mX10_takeWord 0 1 (.aload_n 0) 1 := ⟨by decide +kernel, rfl⟩
theorem eX10_takeWord_1 : eb_gf mX10_takeWord 1 4 9 0 := ⟨7, (RX10, TX10, 29), by decide +kernel, rfl, rfl, by decide, wd_704⟩
theorem eX10_takeWord_4 : eb_at mX10_takeWord 4 5 (.iconst 5) 1 := ⟨by decide +kernel, rfl⟩
theorem eX10_takeWord_5 : eb_at mX10_takeWord 5 6 (.iload_n 1) 1 := ⟨by decide +kernel, rfl⟩
theorem eX10_takeWord_6 : eb_at mX10_takeWord 6 7 (.iadd) 1 := ⟨by decide +kernel, rfl⟩
theorem eX10_takeWord_7 : eb_at mX10_takeWord 7 8 (.aload_n 0) 1 := ⟨by decide +kernel, rfl⟩
theorem eX10_takeWord_8 : eb_gf mX10_takeWord 8 11 9 7 := ⟨19, (RX10, TX10, 29), by decide +kernel, rfl, rfl, by decide, wd_711⟩
theorem eX10_takeWord_11 : eb_at mX10_takeWord 11 12 (.iload_n 2) 1 := ⟨by decide +kernel, rfl⟩
theorem eX10_takeWord_12 : eb_at mX10_takeWord 12 13 (.iaload) 1 := ⟨by decide +kernel, rfl⟩
theorem eX10_takeWord_13 : eb_at mX10_takeWord 13 14 (.iastore) 1 := ⟨by decide +kernel, rfl⟩
theorem eX10_takeWord_14 : eb_at mX10_takeWord 14 15 (.iconst 0) 1 := ⟨by decide +kernel, rfl⟩
theorem eX10_takeWord_15 : eb_at mX10_takeWord 15 16 (.istore_n 3) 1 := ⟨by decide +kernel, rfl⟩
theorem eX10_takeWord_16 : eb_at mX10_takeWord 16 17 (.iload_n 3) 1 := ⟨by decide +kernel, rfl⟩
theorem eX10_takeWord_17 : eb_at mX10_takeWord 17 19 (.bipush 12) 2 := ⟨by decide +kernel, rfl⟩
theorem eX10_takeWord_19 : eb_at mX10_takeWord 19 22 (.if_icmp .ge 48) 3 := ⟨by decide +kernel, rfl⟩
theorem eX10_takeWord_22 : eb_at mX10_takeWord 22 23 (.aload_n 0) 1 := ⟨by decide +kernel, rfl⟩
theorem eX10_takeWord_23 : eb_gf mX10_takeWord 23 26 9 0 := ⟨7, (RX10, TX10, 29), by decide +kernel, rfl, rfl, by decide, wd_704⟩
theorem eX10_takeWord_26 : eb_at mX10_takeWord 26 28 (.bipush 45) 2 := ⟨by decide +kernel, rfl⟩
theorem eX10_takeWord_28 : eb_at mX10_takeWord 28 30 (.bipush 12) 2 := ⟨by decide +kernel, rfl⟩
theorem eX10_takeWord_30 : eb_at mX10_takeWord 30 31 (.iload_n 1) 1 := ⟨by decide +kernel, rfl⟩
theorem eX10_takeWord_31 : eb_at mX10_takeWord 31 32 (.imul) 1 := ⟨by decide +kernel, rfl⟩
theorem eX10_takeWord_32 : eb_at mX10_takeWord 32 33 (.iadd) 1 := ⟨by decide +kernel, rfl⟩
theorem eX10_takeWord_33 : eb_at mX10_takeWord 33 34 (.iload_n 3) 1 := ⟨by decide +kernel, rfl⟩
theorem eX10_takeWord_34 : eb_at mX10_takeWord 34 35 (.iadd) 1 := ⟨by decide +kernel, rfl⟩
theorem eX10_takeWord_35 : eb_at mX10_takeWord 35 36 (.iload_n 3) 1 := ⟨by decide +kernel, rfl⟩
theorem eX10_takeWord_36 : eb_at mX10_takeWord 36 37 (.aload_n 0) 1 := ⟨by decide +kernel, rfl⟩
theorem eX10_takeWord_37 : eb_gf mX10_takeWord 37 40 9 7 := ⟨19, (RX10, TX10, 29), by decide +kernel, rfl, rfl, by decide, wd_711⟩
theorem eX10_takeWord_40 : eb_at mX10_takeWord 40 41 (.iload_n 2) 1 := ⟨by decide +kernel, rfl⟩
theorem eX10_takeWord_41 : eb_at mX10_takeWord 41 42 (.iaload) 1 := ⟨by decide +kernel, rfl⟩
theorem eX10_takeWord_42 : eb_at mX10_takeWord 42 45 (.if_icmp .ge 17) 3 := ⟨by decide +kernel, rfl⟩
theorem eX10_takeWord_45 : eb_at mX10_takeWord 45 46 (.aload_n 0) 1 := ⟨by decide +kernel, rfl⟩
theorem eX10_takeWord_46 : eb_gf mX10_takeWord 46 49 9 8 := ⟨22, (RX10, TX10, 29), by decide +kernel, rfl, rfl, by decide, wd_712⟩
theorem eX10_takeWord_49 : eb_at mX10_takeWord 49 51 (.bipush 12) 2 := ⟨by decide +kernel, rfl⟩
theorem eX10_takeWord_51 : eb_at mX10_takeWord 51 52 (.iload_n 2) 1 := ⟨by decide +kernel, rfl⟩
theorem eX10_takeWord_52 : eb_at mX10_takeWord 52 53 (.imul) 1 := ⟨by decide +kernel, rfl⟩
theorem eX10_takeWord_53 : eb_at mX10_takeWord 53 54 (.iload_n 3) 1 := ⟨by decide +kernel, rfl⟩
theorem eX10_takeWord_54 : eb_at mX10_takeWord 54 55 (.iadd) 1 := ⟨by decide +kernel, rfl⟩
theorem eX10_takeWord_55 : eb_at mX10_takeWord 55 56 (.iaload) 1 := ⟨by decide +kernel, rfl⟩
theorem eX10_takeWord_56 : eb_at mX10_takeWord 56 59 (.goto 4) 3 := ⟨by decide +kernel, rfl⟩
theorem eX10_takeWord_59 : eb_at mX10_takeWord 59 60 (.iconst 0) 1 := ⟨by decide +kernel, rfl⟩
theorem eX10_takeWord_60 : eb_at mX10_takeWord 60 61 (.iastore) 1 := ⟨by decide +kernel, rfl⟩
theorem eX10_takeWord_61 : eb_at mX10_takeWord 61 64 (.iinc 3 1) 3 := ⟨by decide +kernel, rfl⟩
theorem eX10_takeWord_64 : eb_at mX10_takeWord 64 67 (.goto (-48)) 3 := ⟨by decide +kernel, rfl⟩
theorem eX10_takeWord_67 : eb_at mX10_takeWord 67 68 (.return_) 1 := ⟨by decide +kernel, rfl⟩
theorem eX10_tear_0 : eb_at mX10_tear 0 1 (.aload_n 0) 1 := ⟨by decide +kernel, rfl⟩
theorem eX10_tear_1 : eb_gf mX10_tear 1 4 9 19 := ⟨225, (RX10, TX10, 29), by decide +kernel, rfl, rfl, by decide, wd_723⟩
theorem eX10_tear_4 : eb_at mX10_tear 4 5 (.aload_n 0) 1 := ⟨by decide +kernel, rfl⟩
theorem eX10_tear_5 : eb_gf mX10_tear 5 8 9 21 := ⟨233, (RX10, TX10, 29), by decide +kernel, rfl, rfl, by decide, wd_725⟩
theorem eX10_tear_8 : eb_at mX10_tear 8 9 (.iadd) 1 := ⟨by decide +kernel, rfl⟩
theorem eX10_tear_9 : eb_at mX10_tear 9 10 (.istore_n 1) 1 := ⟨by decide +kernel, rfl⟩
theorem eX10_tear_10 : eb_at mX10_tear 10 11 (.aload_n 0) 1 := ⟨by decide +kernel, rfl⟩
theorem eX10_tear_11 : eb_at mX10_tear 11 12 (.iconst 0) 1 := ⟨by decide +kernel, rfl⟩
theorem eX10_tear_12 : eb_pf mX10_tear 12 15 9 19 false .int := ⟨225, (RX10, TX10, 29), by decide +kernel, rfl, rfl, by decide, wd_723, rfl, by decide +kernel, fun h => absurd h (by decide)⟩
theorem eX10_tear_15 : eb_at mX10_tear 15 16 (.aload_n 0) 1 := ⟨by decide +kernel, rfl⟩
theorem eX10_tear_16 : eb_at mX10_tear 16 17 (.iconst 0) 1 := ⟨by decide +kernel, rfl⟩
theorem eX10_tear_17 : eb_pf mX10_tear 17 20 9 21 false .int := ⟨233, (RX10, TX10, 29), by decide +kernel, rfl, rfl, by decide, wd_725, rfl, by decide +kernel, fun h => absurd h (by decide)⟩
theorem eX10_tear_20 : eb_at mX10_tear 20 21 (.iload_n 1) 1 := ⟨by decide +kernel, rfl⟩
theorem eX10_tear_21 : eb_at mX10_tear 21 22 (.ireturn) 1 := ⟨by decide +kernel, rfl⟩
theorem eX10_told_0 : eb_at mX10_told 0 1 (.iload_n 1) 1 := ⟨by decide +kernel, rfl⟩
theorem eX10_told_1 : eb_at mX10_told 1 92 (.tableswitch 162 0 18 #[91, 91, 91, 91, 91, 98, 103, 103, 109, 109, 126, 131, 136, 136, 136, 142, 147, 152, 157]) 91 := ⟨by decide +kernel, rfl⟩
theorem eX10_told_92 : eb_at mX10_told 92 93 (.aload_n 0) 1 := ⟨by decide +kernel, rfl⟩
theorem eX10_told_93 : eb_gf mX10_told 93 96 9 0 := ⟨7, (RX10, TX10, 29), by decide +kernel, rfl, rfl, by decide, wd_704⟩
theorem eX10_told_96 : eb_at mX10_told 96 97 (.iload_n 1) 1 := ⟨by decide +kernel, rfl⟩
theorem eX10_told_97 : eb_at mX10_told 97 98 (.iaload) 1 := ⟨by decide +kernel, rfl⟩
theorem eX10_told_98 : eb_at mX10_told 98 99 (.ireturn) 1 := ⟨by decide +kernel, rfl⟩
theorem eX10_told_99 : eb_at mX10_told 99 100 (.aload_n 0) 1 := ⟨by decide +kernel, rfl⟩
theorem eX10_told_100 : eb_gf mX10_told 100 103 9 5 := ⟨77, (RX10, TX10, 29), by decide +kernel, rfl, rfl, by decide, wd_709⟩
theorem eX10_told_103 : eb_at mX10_told 103 104 (.ireturn) 1 := ⟨by decide +kernel, rfl⟩
theorem eX10_told_104 : eb_at mX10_told 104 105 (.aload_n 0) 1 := ⟨by decide +kernel, rfl⟩
theorem eX10_told_105 : eb_at mX10_told 105 106 (.iload_n 1) 1 := ⟨by decide +kernel, rfl⟩
theorem eX10_told_106 : eb_cv mX10_told 106 109 mX10_toldLines 1 := ⟨236, (RX10, TX10, 29), by decide +kernel, rfl, wd_1039, wd_1041, wd_45, by decide, rfl, rfl, okX10_toldLines⟩
theorem eX10_told_109 : eb_at mX10_told 109 110 (.ireturn) 1 := ⟨by decide +kernel, rfl⟩
theorem eX10_told_110 : eb_at mX10_told 110 111 (.aload_n 0) 1 := ⟨by decide +kernel, rfl⟩
theorem eX10_told_111 : eb_at mX10_told 111 112 (.iload_n 1) 1 := ⟨by decide +kernel, rfl⟩
theorem eX10_told_112 : eb_at mX10_told 112 114 (.bipush 8) 2 := ⟨by decide +kernel, rfl⟩
theorem eX10_told_114 : eb_at mX10_told 114 115 (.isub) 1 := ⟨by decide +kernel, rfl⟩
theorem eX10_told_115 : eb_cv mX10_told 115 118 mX10_firstOf 1 := ⟨209, (RX10, TX10, 29), by decide +kernel, rfl, wd_992, wd_994, wd_44, by decide, rfl, rfl, okX10_firstOf⟩
theorem eX10_told_118 : eb_at mX10_told 118 121 (.ifCond .ge 7) 3 := ⟨by decide +kernel, rfl⟩
theorem eX10_told_121 : eb_at mX10_told 121 122 (.iconst 1) 1 := ⟨by decide +kernel, rfl⟩
theorem eX10_told_122 : eb_at mX10_told 122 125 (.goto 4) 3 := ⟨by decide +kernel, rfl⟩
theorem eX10_told_125 : eb_at mX10_told 125 126 (.iconst 0) 1 := ⟨by decide +kernel, rfl⟩
theorem eX10_told_126 : eb_at mX10_told 126 127 (.ireturn) 1 := ⟨by decide +kernel, rfl⟩
theorem eX10_told_127 : eb_at mX10_told 127 128 (.aload_n 0) 1 := ⟨by decide +kernel, rfl⟩
theorem eX10_told_128 : eb_cv mX10_told 128 131 mX10_rivers 0 := ⟨239, (RX10, TX10, 29), by decide +kernel, rfl, wd_1043, wd_1045, wd_46, by decide, rfl, rfl, okX10_rivers⟩
theorem eX10_told_131 : eb_at mX10_told 131 132 (.ireturn) 1 := ⟨by decide +kernel, rfl⟩
theorem eX10_told_132 : eb_at mX10_told 132 133 (.aload_n 0) 1 := ⟨by decide +kernel, rfl⟩
theorem eX10_told_133 : eb_gf mX10_told 133 136 9 19 := ⟨225, (RX10, TX10, 29), by decide +kernel, rfl, rfl, by decide, wd_723⟩
theorem eX10_told_136 : eb_at mX10_told 136 137 (.ireturn) 1 := ⟨by decide +kernel, rfl⟩
theorem eX10_told_137 : eb_at mX10_told 137 138 (.aload_n 0) 1 := ⟨by decide +kernel, rfl⟩
theorem eX10_told_138 : eb_at mX10_told 138 139 (.iload_n 1) 1 := ⟨by decide +kernel, rfl⟩
theorem eX10_told_139 : eb_cv mX10_told 139 142 mX10_toldMeasures 1 := ⟨242, (RX10, TX10, 29), by decide +kernel, rfl, wd_1047, wd_1049, wd_47, by decide, rfl, rfl, okX10_toldMeasures⟩
theorem eX10_told_142 : eb_at mX10_told 142 143 (.ireturn) 1 := ⟨by decide +kernel, rfl⟩
theorem eX10_told_143 : eb_at mX10_told 143 144 (.aload_n 0) 1 := ⟨by decide +kernel, rfl⟩
theorem eX10_told_144 : eb_cv mX10_told 144 147 mX10_lookOf 0 := ⟨245, (RX10, TX10, 29), by decide +kernel, rfl, wd_1055, wd_1057, wd_49, by decide, rfl, rfl, okX10_lookOf⟩
theorem eX10_told_147 : eb_at mX10_told 147 148 (.ireturn) 1 := ⟨by decide +kernel, rfl⟩
theorem eX10_told_148 : eb_at mX10_told 148 149 (.aload_n 0) 1 := ⟨by decide +kernel, rfl⟩
theorem eX10_told_149 : eb_gf mX10_told 149 152 9 21 := ⟨233, (RX10, TX10, 29), by decide +kernel, rfl, rfl, by decide, wd_725⟩
theorem eX10_told_152 : eb_at mX10_told 152 153 (.ireturn) 1 := ⟨by decide +kernel, rfl⟩
theorem eX10_told_153 : eb_at mX10_told 153 154 (.aload_n 0) 1 := ⟨by decide +kernel, rfl⟩
theorem eX10_told_154 : eb_cv mX10_told 154 157 mX10_wrongEntry 0 := ⟨248, (RX10, TX10, 29), by decide +kernel, rfl, wd_1059, wd_1061, wd_50, by decide, rfl, rfl, okX10_wrongEntry⟩
theorem eX10_told_157 : eb_at mX10_told 157 158 (.ireturn) 1 := ⟨by decide +kernel, rfl⟩
theorem eX10_told_158 : eb_at mX10_told 158 159 (.aload_n 0) 1 := ⟨by decide +kernel, rfl⟩
theorem eX10_told_159 : eb_gf mX10_told 159 162 9 2 := ⟨92, (RX10, TX10, 29), by decide +kernel, rfl, rfl, by decide, wd_706⟩
theorem eX10_told_162 : eb_at mX10_told 162 163 (.ireturn) 1 := ⟨by decide +kernel, rfl⟩
theorem eX10_told_163 : eb_at mX10_told 163 165 (.ldc 76) 2 := ⟨by decide +kernel, rfl⟩
theorem eX10_told_165 : eb_at mX10_told 165 166 (.ireturn) 1 := ⟨by decide +kernel, rfl⟩
theorem eX10_toldLines_0 : eb_at mX10_toldLines 0 1 (.aload_n 0) 1 := ⟨by decide +kernel, rfl⟩
theorem eX10_toldLines_1 : eb_cv mX10_toldLines 1 4 mX10_layLines 0 := ⟨146, (RX10, TX10, 29), by decide +kernel, rfl, wd_854, wd_856, wd_26, by decide, rfl, rfl, okX10_layLines⟩
theorem eX10_toldLines_4 : eb_at mX10_toldLines 4 5 (.iload_n 1) 1 := ⟨by decide +kernel, rfl⟩
theorem eX10_toldLines_5 : eb_at mX10_toldLines 5 7 (.bipush 6) 2 := ⟨by decide +kernel, rfl⟩
theorem eX10_toldLines_7 : eb_at mX10_toldLines 7 10 (.if_icmp .ne 17) 3 := ⟨by decide +kernel, rfl⟩
theorem eX10_toldLines_10 : eb_at mX10_toldLines 10 11 (.aload_n 0) 1 := ⟨by decide +kernel, rfl⟩
theorem eX10_toldLines_11 : eb_gf mX10_toldLines 11 14 9 13 := ⟨34, (RX10, TX10, 29), by decide +kernel, rfl, rfl, by decide, wd_717⟩
theorem eX10_toldLines_14 : eb_at mX10_toldLines 14 15 (.aload_n 0) 1 := ⟨by decide +kernel, rfl⟩
theorem eX10_toldLines_15 : eb_gf mX10_toldLines 15 18 9 0 := ⟨7, (RX10, TX10, 29), by decide +kernel, rfl, rfl, by decide, wd_704⟩
theorem eX10_toldLines_18 : eb_at mX10_toldLines 18 19 (.iconst 0) 1 := ⟨by decide +kernel, rfl⟩
theorem eX10_toldLines_19 : eb_at mX10_toldLines 19 20 (.iaload) 1 := ⟨by decide +kernel, rfl⟩
theorem eX10_toldLines_20 : eb_at mX10_toldLines 20 21 (.iaload) 1 := ⟨by decide +kernel, rfl⟩
theorem eX10_toldLines_21 : eb_at mX10_toldLines 21 24 (.goto 7) 3 := ⟨by decide +kernel, rfl⟩
theorem eX10_toldLines_24 : eb_at mX10_toldLines 24 25 (.aload_n 0) 1 := ⟨by decide +kernel, rfl⟩
theorem eX10_toldLines_25 : eb_gf mX10_toldLines 25 28 9 16 := ⟨140, (RX10, TX10, 29), by decide +kernel, rfl, rfl, by decide, wd_720⟩
theorem eX10_toldLines_28 : eb_at mX10_toldLines 28 29 (.ireturn) 1 := ⟨by decide +kernel, rfl⟩
theorem eX10_toldMeasures_0 : eb_at mX10_toldMeasures 0 1 (.aload_n 0) 1 := ⟨by decide +kernel, rfl⟩
theorem eX10_toldMeasures_1 : eb_cv mX10_toldMeasures 1 4 mX10_layMeasures 0 := ⟨228, (RX10, TX10, 29), by decide +kernel, rfl, wd_1051, wd_1053, wd_48, by decide, rfl, rfl, okX10_layMeasures⟩
theorem eX10_toldMeasures_4 : eb_at mX10_toldMeasures 4 5 (.iload_n 1) 1 := ⟨by decide +kernel, rfl⟩
theorem eX10_toldMeasures_5 : eb_at mX10_toldMeasures 5 7 (.bipush 12) 2 := ⟨by decide +kernel, rfl⟩
theorem eX10_toldMeasures_7 : eb_at mX10_toldMeasures 7 10 (.if_icmp .ne 10) 3 := ⟨by decide +kernel, rfl⟩
theorem eX10_toldMeasures_10 : eb_at mX10_toldMeasures 10 11 (.aload_n 0) 1 := ⟨by decide +kernel, rfl⟩
theorem eX10_toldMeasures_11 : eb_gf mX10_toldMeasures 11 14 9 24 := ⟨216, (RX10, TX10, 29), by decide +kernel, rfl, rfl, by decide, wd_728⟩
theorem eX10_toldMeasures_14 : eb_at mX10_toldMeasures 14 17 (.goto 20) 3 := ⟨by decide +kernel, rfl⟩
theorem eX10_toldMeasures_17 : eb_at mX10_toldMeasures 17 18 (.iload_n 1) 1 := ⟨by decide +kernel, rfl⟩
theorem eX10_toldMeasures_18 : eb_at mX10_toldMeasures 18 20 (.bipush 13) 2 := ⟨by decide +kernel, rfl⟩
theorem eX10_toldMeasures_20 : eb_at mX10_toldMeasures 20 23 (.if_icmp .ne 10) 3 := ⟨by decide +kernel, rfl⟩
theorem eX10_toldMeasures_23 : eb_at mX10_toldMeasures 23 24 (.aload_n 0) 1 := ⟨by decide +kernel, rfl⟩
theorem eX10_toldMeasures_24 : eb_gf mX10_toldMeasures 24 27 9 25 := ⟨219, (RX10, TX10, 29), by decide +kernel, rfl, rfl, by decide, wd_729⟩
theorem eX10_toldMeasures_27 : eb_at mX10_toldMeasures 27 30 (.goto 7) 3 := ⟨by decide +kernel, rfl⟩
theorem eX10_toldMeasures_30 : eb_at mX10_toldMeasures 30 31 (.aload_n 0) 1 := ⟨by decide +kernel, rfl⟩
theorem eX10_toldMeasures_31 : eb_gf mX10_toldMeasures 31 34 9 26 := ⟨222, (RX10, TX10, 29), by decide +kernel, rfl, rfl, by decide, wd_730⟩
theorem eX10_toldMeasures_34 : eb_at mX10_toldMeasures 34 35 (.ireturn) 1 := ⟨by decide +kernel, rfl⟩
theorem eX10_total_0 : eb_at mX10_total 0 1 (.aload_n 0) 1 := ⟨by decide +kernel, rfl⟩
theorem eX10_total_1 : eb_cv mX10_total 1 4 mX10_lay 0 := ⟨137, (RX10, TX10, 29), by decide +kernel, rfl, wd_858, wd_860, wd_27, by decide, rfl, rfl, okX10_lay⟩
theorem eX10_total_4 : eb_at mX10_total 4 5 (.aload_n 0) 1 := ⟨by decide +kernel, rfl⟩
theorem eX10_total_5 : eb_gf mX10_total 5 8 9 13 := ⟨34, (RX10, TX10, 29), by decide +kernel, rfl, rfl, by decide, wd_717⟩
theorem eX10_total_8 : eb_at mX10_total 8 9 (.aload_n 0) 1 := ⟨by decide +kernel, rfl⟩
theorem eX10_total_9 : eb_gf mX10_total 9 12 9 0 := ⟨7, (RX10, TX10, 29), by decide +kernel, rfl, rfl, by decide, wd_704⟩
theorem eX10_total_12 : eb_at mX10_total 12 13 (.iconst 0) 1 := ⟨by decide +kernel, rfl⟩
theorem eX10_total_13 : eb_at mX10_total 13 14 (.iaload) 1 := ⟨by decide +kernel, rfl⟩
theorem eX10_total_14 : eb_at mX10_total 14 15 (.iaload) 1 := ⟨by decide +kernel, rfl⟩
theorem eX10_total_15 : eb_at mX10_total 15 16 (.ireturn) 1 := ⟨by decide +kernel, rfl⟩
theorem eX10_type_0 : eb_at mX10_type 0 1 (.aload_n 0) 1 := ⟨by decide +kernel, rfl⟩
theorem eX10_type_1 : eb_cv mX10_type 1 4 mX10_readWords 0 := ⟨95, (RX10, TX10, 29), by decide +kernel, rfl, wd_807, wd_809, wd_18, by decide, rfl, rfl, okX10_readWords⟩
theorem eX10_type_4 : eb_at mX10_type 4 5 (.istore_n 1) 1 := ⟨by decide +kernel, rfl⟩
theorem eX10_type_5 : eb_at mX10_type 5 6 (.iload_n 1) 1 := ⟨by decide +kernel, rfl⟩
theorem eX10_type_6 : eb_at mX10_type 6 9 (.ifCond .ge 5) 3 := ⟨by decide +kernel, rfl⟩
theorem eX10_type_9 : eb_at mX10_type 9 10 (.iload_n 1) 1 := ⟨by decide +kernel, rfl⟩
theorem eX10_type_10 : eb_at mX10_type 10 11 (.ireturn) 1 := ⟨by decide +kernel, rfl⟩
theorem eX10_type_11 : eb_at mX10_type 11 12 (.aload_n 0) 1 := ⟨by decide +kernel, rfl⟩
theorem eX10_type_12 : eb_cv mX10_type 12 15 mX10_note 0 := ⟨99, (RX10, TX10, 29), by decide +kernel, rfl, wd_817, wd_819, wd_20, by decide, rfl, rfl, okX10_note⟩
theorem eX10_type_15 : eb_at mX10_type 15 16 (.aload_n 0) 1 := ⟨by decide +kernel, rfl⟩
theorem eX10_type_16 : eb_gf mX10_type 16 19 9 0 := ⟨7, (RX10, TX10, 29), by decide +kernel, rfl, rfl, by decide, wd_704⟩
theorem eX10_type_19 : eb_at mX10_type 19 20 (.iconst 0) 1 := ⟨by decide +kernel, rfl⟩
theorem eX10_type_20 : eb_at mX10_type 20 21 (.aload_n 0) 1 := ⟨by decide +kernel, rfl⟩
theorem eX10_type_21 : eb_gf mX10_type 21 24 9 9 := ⟨81, (RX10, TX10, 29), by decide +kernel, rfl, rfl, by decide, wd_713⟩
theorem eX10_type_24 : eb_at mX10_type 24 25 (.iastore) 1 := ⟨by decide +kernel, rfl⟩
theorem eX10_type_25 : eb_at mX10_type 25 26 (.iconst 0) 1 := ⟨by decide +kernel, rfl⟩
theorem eX10_type_26 : eb_at mX10_type 26 27 (.istore_n 2) 1 := ⟨by decide +kernel, rfl⟩
theorem eX10_type_27 : eb_at mX10_type 27 28 (.iload_n 2) 1 := ⟨by decide +kernel, rfl⟩
theorem eX10_type_28 : eb_at mX10_type 28 30 (.bipush 40) 2 := ⟨by decide +kernel, rfl⟩
theorem eX10_type_30 : eb_at mX10_type 30 33 (.if_icmp .ge 31) 3 := ⟨by decide +kernel, rfl⟩
theorem eX10_type_33 : eb_at mX10_type 33 34 (.iload_n 2) 1 := ⟨by decide +kernel, rfl⟩
theorem eX10_type_34 : eb_at mX10_type 34 35 (.aload_n 0) 1 := ⟨by decide +kernel, rfl⟩
theorem eX10_type_35 : eb_gf mX10_type 35 38 9 9 := ⟨81, (RX10, TX10, 29), by decide +kernel, rfl, rfl, by decide, wd_713⟩
theorem eX10_type_38 : eb_at mX10_type 38 41 (.if_icmp .ge 12) 3 := ⟨by decide +kernel, rfl⟩
theorem eX10_type_41 : eb_at mX10_type 41 42 (.aload_n 0) 1 := ⟨by decide +kernel, rfl⟩
theorem eX10_type_42 : eb_at mX10_type 42 43 (.iload_n 2) 1 := ⟨by decide +kernel, rfl⟩
theorem eX10_type_43 : eb_at mX10_type 43 44 (.iload_n 2) 1 := ⟨by decide +kernel, rfl⟩
theorem eX10_type_44 : eb_cv mX10_type 44 47 mX10_takeWord 2 := ⟨102, (RX10, TX10, 29), by decide +kernel, rfl, wd_821, wd_823, wd_21, by decide, rfl, rfl, okX10_takeWord⟩
theorem eX10_type_47 : eb_at mX10_type 47 50 (.goto 8) 3 := ⟨by decide +kernel, rfl⟩
theorem eX10_type_50 : eb_at mX10_type 50 51 (.aload_n 0) 1 := ⟨by decide +kernel, rfl⟩
theorem eX10_type_51 : eb_at mX10_type 51 52 (.iload_n 2) 1 := ⟨by decide +kernel, rfl⟩
theorem eX10_type_52 : eb_cv mX10_type 52 55 mX10_clearWord 1 := ⟨106, (RX10, TX10, 29), by decide +kernel, rfl, wd_825, wd_827, wd_22, by decide, rfl, rfl, okX10_clearWord⟩
theorem eX10_type_55 : eb_at mX10_type 55 58 (.iinc 2 1) 3 := ⟨by decide +kernel, rfl⟩
theorem eX10_type_58 : eb_at mX10_type 58 61 (.goto (-31)) 3 := ⟨by decide +kernel, rfl⟩
theorem eX10_type_61 : eb_at mX10_type 61 62 (.aload_n 0) 1 := ⟨by decide +kernel, rfl⟩
theorem eX10_type_62 : eb_gf mX10_type 62 65 9 0 := ⟨7, (RX10, TX10, 29), by decide +kernel, rfl, rfl, by decide, wd_704⟩
theorem eX10_type_65 : eb_at mX10_type 65 66 (.iconst 0) 1 := ⟨by decide +kernel, rfl⟩
theorem eX10_type_66 : eb_at mX10_type 66 67 (.iaload) 1 := ⟨by decide +kernel, rfl⟩
theorem eX10_type_67 : eb_at mX10_type 67 68 (.ireturn) 1 := ⟨by decide +kernel, rfl⟩
theorem eX10_undo_0 : eb_at mX10_undo 0 1 (.iload_n 1) 1 := ⟨by decide +kernel, rfl⟩
theorem eX10_undo_1 : eb_at mX10_undo 1 2 (.i2l) 1 := ⟨by decide +kernel, rfl⟩
theorem eX10_undo_2 : eb_at mX10_undo 2 3 (.lconst 1) 1 := ⟨by decide +kernel, rfl⟩
theorem eX10_undo_3 : eb_at mX10_undo 3 6 (.ldc2_w 204) 3 := ⟨by decide +kernel, rfl⟩
theorem eX10_undo_6 : eb_cs mX10_undo 6 9 mX10_in 3 := ⟨70, by decide +kernel, rfl, wd_798, wd_799, by decide, okX10_in⟩
theorem eX10_undo_9 : eb_at mX10_undo 9 12 (.ifCond .ne 6) 3 := ⟨by decide +kernel, rfl⟩
theorem eX10_undo_12 : eb_at mX10_undo 12 14 (.ldc 76) 2 := ⟨by decide +kernel, rfl⟩
theorem eX10_undo_14 : eb_at mX10_undo 14 15 (.ireturn) 1 := ⟨by decide +kernel, rfl⟩
theorem eX10_undo_15 : eb_at mX10_undo 15 16 (.iload_n 1) 1 := ⟨by decide +kernel, rfl⟩
theorem eX10_undo_16 : eb_at mX10_undo 16 17 (.aload_n 0) 1 := ⟨by decide +kernel, rfl⟩
theorem eX10_undo_17 : eb_gf mX10_undo 17 20 9 2 := ⟨92, (RX10, TX10, 29), by decide +kernel, rfl, rfl, by decide, wd_706⟩
theorem eX10_undo_20 : eb_at mX10_undo 20 23 (.if_icmp .le 6) 3 := ⟨by decide +kernel, rfl⟩
theorem eX10_undo_23 : eb_at mX10_undo 23 25 (.ldc 177) 2 := ⟨by decide +kernel, rfl⟩
theorem eX10_undo_25 : eb_at mX10_undo 25 26 (.ireturn) 1 := ⟨by decide +kernel, rfl⟩
theorem eX10_undo_26 : eb_at mX10_undo 26 27 (.aload_n 0) 1 := ⟨by decide +kernel, rfl⟩
theorem eX10_undo_27 : eb_at mX10_undo 27 28 (.dup) 1 := ⟨by decide +kernel, rfl⟩
theorem eX10_undo_28 : eb_gf mX10_undo 28 31 9 2 := ⟨92, (RX10, TX10, 29), by decide +kernel, rfl, rfl, by decide, wd_706⟩
theorem eX10_undo_31 : eb_at mX10_undo 31 32 (.iload_n 1) 1 := ⟨by decide +kernel, rfl⟩
theorem eX10_undo_32 : eb_at mX10_undo 32 33 (.isub) 1 := ⟨by decide +kernel, rfl⟩
theorem eX10_undo_33 : eb_pf mX10_undo 33 36 9 2 false .int := ⟨92, (RX10, TX10, 29), by decide +kernel, rfl, rfl, by decide, wd_706, rfl, by decide +kernel, fun h => absurd h (by decide)⟩
theorem eX10_undo_36 : eb_at mX10_undo 36 37 (.iconst 0) 1 := ⟨by decide +kernel, rfl⟩
theorem eX10_undo_37 : eb_at mX10_undo 37 38 (.istore_n 2) 1 := ⟨by decide +kernel, rfl⟩
theorem eX10_undo_38 : eb_at mX10_undo 38 39 (.iload_n 2) 1 := ⟨by decide +kernel, rfl⟩
theorem eX10_undo_39 : eb_at mX10_undo 39 42 (.sipush 525) 3 := ⟨by decide +kernel, rfl⟩
theorem eX10_undo_42 : eb_at mX10_undo 42 45 (.if_icmp .ge 30) 3 := ⟨by decide +kernel, rfl⟩
theorem eX10_undo_45 : eb_at mX10_undo 45 46 (.aload_n 0) 1 := ⟨by decide +kernel, rfl⟩
theorem eX10_undo_46 : eb_gf mX10_undo 46 49 9 0 := ⟨7, (RX10, TX10, 29), by decide +kernel, rfl, rfl, by decide, wd_704⟩
theorem eX10_undo_49 : eb_at mX10_undo 49 50 (.iload_n 2) 1 := ⟨by decide +kernel, rfl⟩
theorem eX10_undo_50 : eb_at mX10_undo 50 51 (.aload_n 0) 1 := ⟨by decide +kernel, rfl⟩
theorem eX10_undo_51 : eb_gf mX10_undo 51 54 9 1 := ⟨13, (RX10, TX10, 29), by decide +kernel, rfl, rfl, by decide, wd_705⟩
theorem eX10_undo_54 : eb_at mX10_undo 54 57 (.sipush 525) 3 := ⟨by decide +kernel, rfl⟩
theorem eX10_undo_57 : eb_at mX10_undo 57 58 (.aload_n 0) 1 := ⟨by decide +kernel, rfl⟩
theorem eX10_undo_58 : eb_gf mX10_undo 58 61 9 2 := ⟨92, (RX10, TX10, 29), by decide +kernel, rfl, rfl, by decide, wd_706⟩
theorem eX10_undo_61 : eb_at mX10_undo 61 62 (.imul) 1 := ⟨by decide +kernel, rfl⟩
theorem eX10_undo_62 : eb_at mX10_undo 62 63 (.iload_n 2) 1 := ⟨by decide +kernel, rfl⟩
theorem eX10_undo_63 : eb_at mX10_undo 63 64 (.iadd) 1 := ⟨by decide +kernel, rfl⟩
theorem eX10_undo_64 : eb_at mX10_undo 64 65 (.iaload) 1 := ⟨by decide +kernel, rfl⟩
theorem eX10_undo_65 : eb_at mX10_undo 65 66 (.iastore) 1 := ⟨by decide +kernel, rfl⟩
theorem eX10_undo_66 : eb_at mX10_undo 66 69 (.iinc 2 1) 3 := ⟨by decide +kernel, rfl⟩
theorem eX10_undo_69 : eb_at mX10_undo 69 72 (.goto (-31)) 3 := ⟨by decide +kernel, rfl⟩
theorem eX10_undo_72 : eb_at mX10_undo 72 73 (.aload_n 0) 1 := ⟨by decide +kernel, rfl⟩
theorem eX10_undo_73 : eb_gf mX10_undo 73 76 9 0 := ⟨7, (RX10, TX10, 29), by decide +kernel, rfl, rfl, by decide, wd_704⟩
theorem eX10_undo_76 : eb_at mX10_undo 76 77 (.iconst 0) 1 := ⟨by decide +kernel, rfl⟩
theorem eX10_undo_77 : eb_at mX10_undo 77 78 (.iaload) 1 := ⟨by decide +kernel, rfl⟩
theorem eX10_undo_78 : eb_at mX10_undo 78 79 (.ireturn) 1 := ⟨by decide +kernel, rfl⟩
theorem eX10_widthOf_0 : eb_at mX10_widthOf 0 1 (.iload_n 0) 1 := ⟨by decide +kernel, rfl⟩
theorem eX10_widthOf_1 : eb_at mX10_widthOf 1 3 (.bipush 102) 2 := ⟨by decide +kernel, rfl⟩
theorem eX10_widthOf_3 : eb_at mX10_widthOf 3 6 (.if_icmp .eq 33) 3 := ⟨by decide +kernel, rfl⟩
theorem eX10_widthOf_6 : eb_at mX10_widthOf 6 7 (.iload_n 0) 1 := ⟨by decide +kernel, rfl⟩
theorem eX10_widthOf_7 : eb_at mX10_widthOf 7 9 (.bipush 105) 2 := ⟨by decide +kernel, rfl⟩
theorem eX10_widthOf_9 : eb_at mX10_widthOf 9 12 (.if_icmp .eq 27) 3 := ⟨by decide +kernel, rfl⟩
theorem eX10_widthOf_12 : eb_at mX10_widthOf 12 13 (.iload_n 0) 1 := ⟨by decide +kernel, rfl⟩
theorem eX10_widthOf_13 : eb_at mX10_widthOf 13 15 (.bipush 106) 2 := ⟨by decide +kernel, rfl⟩
theorem eX10_widthOf_15 : eb_at mX10_widthOf 15 18 (.if_icmp .eq 21) 3 := ⟨by decide +kernel, rfl⟩
theorem eX10_widthOf_18 : eb_at mX10_widthOf 18 19 (.iload_n 0) 1 := ⟨by decide +kernel, rfl⟩
theorem eX10_widthOf_19 : eb_at mX10_widthOf 19 21 (.bipush 108) 2 := ⟨by decide +kernel, rfl⟩
theorem eX10_widthOf_21 : eb_at mX10_widthOf 21 24 (.if_icmp .eq 15) 3 := ⟨by decide +kernel, rfl⟩
theorem eX10_widthOf_24 : eb_at mX10_widthOf 24 25 (.iload_n 0) 1 := ⟨by decide +kernel, rfl⟩
theorem eX10_widthOf_25 : eb_at mX10_widthOf 25 27 (.bipush 114) 2 := ⟨by decide +kernel, rfl⟩
theorem eX10_widthOf_27 : eb_at mX10_widthOf 27 30 (.if_icmp .eq 9) 3 := ⟨by decide +kernel, rfl⟩
theorem eX10_widthOf_30 : eb_at mX10_widthOf 30 31 (.iload_n 0) 1 := ⟨by decide +kernel, rfl⟩
theorem eX10_widthOf_31 : eb_at mX10_widthOf 31 33 (.bipush 116) 2 := ⟨by decide +kernel, rfl⟩
theorem eX10_widthOf_33 : eb_at mX10_widthOf 33 36 (.if_icmp .ne 5) 3 := ⟨by decide +kernel, rfl⟩
theorem eX10_widthOf_36 : eb_at mX10_widthOf 36 37 (.iconst 1) 1 := ⟨by decide +kernel, rfl⟩
theorem eX10_widthOf_37 : eb_at mX10_widthOf 37 38 (.ireturn) 1 := ⟨by decide +kernel, rfl⟩
theorem eX10_widthOf_38 : eb_at mX10_widthOf 38 39 (.iload_n 0) 1 := ⟨by decide +kernel, rfl⟩
theorem eX10_widthOf_39 : eb_at mX10_widthOf 39 41 (.bipush 109) 2 := ⟨by decide +kernel, rfl⟩
theorem eX10_widthOf_41 : eb_at mX10_widthOf 41 44 (.if_icmp .eq 9) 3 := ⟨by decide +kernel, rfl⟩
theorem eX10_widthOf_44 : eb_at mX10_widthOf 44 45 (.iload_n 0) 1 := ⟨by decide +kernel, rfl⟩
theorem eX10_widthOf_45 : eb_at mX10_widthOf 45 47 (.bipush 119) 2 := ⟨by decide +kernel, rfl⟩
theorem eX10_widthOf_47 : eb_at mX10_widthOf 47 50 (.if_icmp .ne 7) 3 := ⟨by decide +kernel, rfl⟩
theorem eX10_widthOf_50 : eb_at mX10_widthOf 50 51 (.iconst 3) 1 := ⟨by decide +kernel, rfl⟩
theorem eX10_widthOf_51 : eb_at mX10_widthOf 51 54 (.goto 4) 3 := ⟨by decide +kernel, rfl⟩
theorem eX10_widthOf_54 : eb_at mX10_widthOf 54 55 (.iconst 2) 1 := ⟨by decide +kernel, rfl⟩
theorem eX10_widthOf_55 : eb_at mX10_widthOf 55 56 (.ireturn) 1 := ⟨by decide +kernel, rfl⟩
theorem eX10_with_0 : eb_at mX10_with 0 1 (.iload_n 1) 1 := ⟨by decide +kernel, rfl⟩
theorem eX10_with_1 : eb_at mX10_with 1 2 (.i2l) 1 := ⟨by decide +kernel, rfl⟩
theorem eX10_with_2 : eb_at mX10_with 2 3 (.lconst 1) 1 := ⟨by decide +kernel, rfl⟩
theorem eX10_with_3 : eb_at mX10_with 3 6 (.ldc2_w 212) 3 := ⟨by decide +kernel, rfl⟩
theorem eX10_with_6 : eb_cs mX10_with 6 9 mX10_in 3 := ⟨70, by decide +kernel, rfl, wd_798, wd_799, by decide, okX10_in⟩
theorem eX10_with_9 : eb_at mX10_with 9 12 (.ifCond .ne 6) 3 := ⟨by decide +kernel, rfl⟩
theorem eX10_with_12 : eb_at mX10_with 12 14 (.ldc 76) 2 := ⟨by decide +kernel, rfl⟩
theorem eX10_with_14 : eb_at mX10_with 14 15 (.ireturn) 1 := ⟨by decide +kernel, rfl⟩
theorem eX10_with_15 : eb_at mX10_with 15 16 (.aload_n 0) 1 := ⟨by decide +kernel, rfl⟩
theorem eX10_with_16 : eb_cv mX10_with 16 19 mX10_lay 0 := ⟨137, (RX10, TX10, 29), by decide +kernel, rfl, wd_858, wd_860, wd_27, by decide, rfl, rfl, okX10_lay⟩
theorem eX10_with_19 : eb_at mX10_with 19 20 (.aload_n 0) 1 := ⟨by decide +kernel, rfl⟩
theorem eX10_with_20 : eb_gf mX10_with 20 23 9 0 := ⟨7, (RX10, TX10, 29), by decide +kernel, rfl, rfl, by decide, wd_704⟩
theorem eX10_with_23 : eb_at mX10_with 23 24 (.iconst 0) 1 := ⟨by decide +kernel, rfl⟩
theorem eX10_with_24 : eb_at mX10_with 24 25 (.iaload) 1 := ⟨by decide +kernel, rfl⟩
theorem eX10_with_25 : eb_at mX10_with 25 26 (.istore_n 2) 1 := ⟨by decide +kernel, rfl⟩
theorem eX10_with_26 : eb_at mX10_with 26 27 (.iconst 0) 1 := ⟨by decide +kernel, rfl⟩
theorem eX10_with_27 : eb_at mX10_with 27 28 (.istore_n 3) 1 := ⟨by decide +kernel, rfl⟩
theorem eX10_with_28 : eb_at mX10_with 28 29 (.iload_n 3) 1 := ⟨by decide +kernel, rfl⟩
theorem eX10_with_29 : eb_at mX10_with 29 30 (.iload_n 2) 1 := ⟨by decide +kernel, rfl⟩
theorem eX10_with_30 : eb_at mX10_with 30 33 (.if_icmp .gt 25) 3 := ⟨by decide +kernel, rfl⟩
theorem eX10_with_33 : eb_at mX10_with 33 34 (.aload_n 0) 1 := ⟨by decide +kernel, rfl⟩
theorem eX10_with_34 : eb_gf mX10_with 34 37 9 17 := ⟨43, (RX10, TX10, 29), by decide +kernel, rfl, rfl, by decide, wd_721⟩
theorem eX10_with_37 : eb_at mX10_with 37 38 (.iload_n 3) 1 := ⟨by decide +kernel, rfl⟩
theorem eX10_with_38 : eb_at mX10_with 38 39 (.iload_n 3) 1 := ⟨by decide +kernel, rfl⟩
theorem eX10_with_39 : eb_at mX10_with 39 42 (.ifCond .ne 7) 3 := ⟨by decide +kernel, rfl⟩
theorem eX10_with_42 : eb_at mX10_with 42 43 (.iconst 0) 1 := ⟨by decide +kernel, rfl⟩
theorem eX10_with_43 : eb_at mX10_with 43 46 (.goto 5) 3 := ⟨by decide +kernel, rfl⟩
theorem eX10_with_46 : eb_at mX10_with 46 48 (.ldc 126) 2 := ⟨by decide +kernel, rfl⟩
theorem eX10_with_48 : eb_at mX10_with 48 49 (.iastore) 1 := ⟨by decide +kernel, rfl⟩
theorem eX10_with_49 : eb_at mX10_with 49 52 (.iinc 3 1) 3 := ⟨by decide +kernel, rfl⟩
theorem eX10_with_52 : eb_at mX10_with 52 55 (.goto (-24)) 3 := ⟨by decide +kernel, rfl⟩
theorem eX10_with_55 : eb_at mX10_with 55 56 (.iconst 0) 1 := ⟨by decide +kernel, rfl⟩
theorem eX10_with_56 : eb_at mX10_with 56 57 (.istore_n 3) 1 := ⟨by decide +kernel, rfl⟩
theorem eX10_with_57 : eb_at mX10_with 57 58 (.iload_n 3) 1 := ⟨by decide +kernel, rfl⟩
theorem eX10_with_58 : eb_at mX10_with 58 59 (.iload_n 1) 1 := ⟨by decide +kernel, rfl⟩
theorem eX10_with_59 : eb_at mX10_with 59 62 (.if_icmp .ge 108) 3 := ⟨by decide +kernel, rfl⟩
theorem eX10_with_62 : eb_at mX10_with 62 63 (.iload_n 2) 1 := ⟨by decide +kernel, rfl⟩
theorem eX10_with_63 : eb_at mX10_with 63 65 (.istore 4) 2 := ⟨by decide +kernel, rfl⟩
theorem eX10_with_65 : eb_at mX10_with 65 67 (.iload 4) 2 := ⟨by decide +kernel, rfl⟩
theorem eX10_with_67 : eb_at mX10_with 67 70 (.ifCond .lt 94) 3 := ⟨by decide +kernel, rfl⟩
theorem eX10_with_70 : eb_at mX10_with 70 72 (.ldc 126) 2 := ⟨by decide +kernel, rfl⟩
theorem eX10_with_72 : eb_at mX10_with 72 74 (.istore 5) 2 := ⟨by decide +kernel, rfl⟩
theorem eX10_with_74 : eb_at mX10_with 74 75 (.iconst 0) 1 := ⟨by decide +kernel, rfl⟩
theorem eX10_with_75 : eb_at mX10_with 75 77 (.istore 6) 2 := ⟨by decide +kernel, rfl⟩
theorem eX10_with_77 : eb_at mX10_with 77 79 (.iload 6) 2 := ⟨by decide +kernel, rfl⟩
theorem eX10_with_79 : eb_at mX10_with 79 81 (.iload 4) 2 := ⟨by decide +kernel, rfl⟩
theorem eX10_with_81 : eb_at mX10_with 81 84 (.if_icmp .ge 65) 3 := ⟨by decide +kernel, rfl⟩
theorem eX10_with_84 : eb_at mX10_with 84 85 (.aload_n 0) 1 := ⟨by decide +kernel, rfl⟩
theorem eX10_with_85 : eb_gf mX10_with 85 88 9 17 := ⟨43, (RX10, TX10, 29), by decide +kernel, rfl, rfl, by decide, wd_721⟩
theorem eX10_with_88 : eb_at mX10_with 88 90 (.iload 6) 2 := ⟨by decide +kernel, rfl⟩
theorem eX10_with_90 : eb_at mX10_with 90 91 (.iaload) 1 := ⟨by decide +kernel, rfl⟩
theorem eX10_with_91 : eb_at mX10_with 91 93 (.ldc 126) 2 := ⟨by decide +kernel, rfl⟩
theorem eX10_with_93 : eb_at mX10_with 93 96 (.if_icmp .ne 8) 3 := ⟨by decide +kernel, rfl⟩
theorem eX10_with_96 : eb_at mX10_with 96 98 (.ldc 126) 2 := ⟨by decide +kernel, rfl⟩
theorem eX10_with_98 : eb_at mX10_with 98 101 (.goto 24) 3 := ⟨by decide +kernel, rfl⟩
theorem eX10_with_101 : eb_at mX10_with 101 102 (.aload_n 0) 1 := ⟨by decide +kernel, rfl⟩
theorem eX10_with_102 : eb_gf mX10_with 102 105 9 17 := ⟨43, (RX10, TX10, 29), by decide +kernel, rfl, rfl, by decide, wd_721⟩
theorem eX10_with_105 : eb_at mX10_with 105 107 (.iload 6) 2 := ⟨by decide +kernel, rfl⟩
theorem eX10_with_107 : eb_at mX10_with 107 108 (.iaload) 1 := ⟨by decide +kernel, rfl⟩
theorem eX10_with_108 : eb_at mX10_with 108 109 (.aload_n 0) 1 := ⟨by decide +kernel, rfl⟩
theorem eX10_with_109 : eb_gf mX10_with 109 112 9 12 := ⟨31, (RX10, TX10, 29), by decide +kernel, rfl, rfl, by decide, wd_716⟩
theorem eX10_with_112 : eb_at mX10_with 112 114 (.bipush 41) 2 := ⟨by decide +kernel, rfl⟩
theorem eX10_with_114 : eb_at mX10_with 114 116 (.iload 6) 2 := ⟨by decide +kernel, rfl⟩
theorem eX10_with_116 : eb_at mX10_with 116 117 (.imul) 1 := ⟨by decide +kernel, rfl⟩
theorem eX10_with_117 : eb_at mX10_with 117 119 (.iload 4) 2 := ⟨by decide +kernel, rfl⟩
theorem eX10_with_119 : eb_at mX10_with 119 120 (.iadd) 1 := ⟨by decide +kernel, rfl⟩
theorem eX10_with_120 : eb_at mX10_with 120 121 (.iaload) 1 := ⟨by decide +kernel, rfl⟩
theorem eX10_with_121 : eb_at mX10_with 121 122 (.iadd) 1 := ⟨by decide +kernel, rfl⟩
theorem eX10_with_122 : eb_at mX10_with 122 124 (.istore 7) 2 := ⟨by decide +kernel, rfl⟩
theorem eX10_with_124 : eb_at mX10_with 124 126 (.iload 7) 2 := ⟨by decide +kernel, rfl⟩
theorem eX10_with_126 : eb_at mX10_with 126 128 (.iload 5) 2 := ⟨by decide +kernel, rfl⟩
theorem eX10_with_128 : eb_at mX10_with 128 131 (.if_icmp .ge 8) 3 := ⟨by decide +kernel, rfl⟩
theorem eX10_with_131 : eb_at mX10_with 131 133 (.iload 7) 2 := ⟨by decide +kernel, rfl⟩
theorem eX10_with_133 : eb_at mX10_with 133 136 (.goto 5) 3 := ⟨by decide +kernel, rfl⟩
theorem eX10_with_136 : eb_at mX10_with 136 138 (.iload 5) 2 := ⟨by decide +kernel, rfl⟩
theorem eX10_with_138 : eb_at mX10_with 138 140 (.istore 5) 2 := ⟨by decide +kernel, rfl⟩
theorem eX10_with_140 : eb_at mX10_with 140 143 (.iinc 6 1) 3 := ⟨by decide +kernel, rfl⟩
theorem eX10_with_143 : eb_at mX10_with 143 146 (.goto (-66)) 3 := ⟨by decide +kernel, rfl⟩
theorem eX10_with_146 : eb_at mX10_with 146 147 (.aload_n 0) 1 := ⟨by decide +kernel, rfl⟩
theorem eX10_with_147 : eb_gf mX10_with 147 150 9 17 := ⟨43, (RX10, TX10, 29), by decide +kernel, rfl, rfl, by decide, wd_721⟩
theorem eX10_with_150 : eb_at mX10_with 150 152 (.iload 4) 2 := ⟨by decide +kernel, rfl⟩
theorem eX10_with_152 : eb_at mX10_with 152 154 (.iload 5) 2 := ⟨by decide +kernel, rfl⟩
theorem eX10_with_154 : eb_at mX10_with 154 155 (.iastore) 1 := ⟨by decide +kernel, rfl⟩
theorem eX10_with_155 : eb_at mX10_with 155 158 (.iinc 4 (-1)) 3 := ⟨by decide +kernel, rfl⟩
theorem eX10_with_158 : eb_at mX10_with 158 161 (.goto (-93)) 3 := ⟨by decide +kernel, rfl⟩
theorem eX10_with_161 : eb_at mX10_with 161 164 (.iinc 3 1) 3 := ⟨by decide +kernel, rfl⟩
theorem eX10_with_164 : eb_at mX10_with 164 167 (.goto (-107)) 3 := ⟨by decide +kernel, rfl⟩
theorem eX10_with_167 : eb_at mX10_with 167 168 (.aload_n 0) 1 := ⟨by decide +kernel, rfl⟩
theorem eX10_with_168 : eb_gf mX10_with 168 171 9 17 := ⟨43, (RX10, TX10, 29), by decide +kernel, rfl, rfl, by decide, wd_721⟩
theorem eX10_with_171 : eb_at mX10_with 171 172 (.iload_n 2) 1 := ⟨by decide +kernel, rfl⟩
theorem eX10_with_172 : eb_at mX10_with 172 173 (.iaload) 1 := ⟨by decide +kernel, rfl⟩
theorem eX10_with_173 : eb_at mX10_with 173 175 (.ldc 126) 2 := ⟨by decide +kernel, rfl⟩
theorem eX10_with_175 : eb_at mX10_with 175 178 (.if_icmp .ne 7) 3 := ⟨by decide +kernel, rfl⟩
theorem eX10_with_178 : eb_at mX10_with 178 179 (.iconst (-1)) 1 := ⟨by decide +kernel, rfl⟩
theorem eX10_with_179 : eb_at mX10_with 179 182 (.goto 9) 3 := ⟨by decide +kernel, rfl⟩
theorem eX10_with_182 : eb_at mX10_with 182 183 (.aload_n 0) 1 := ⟨by decide +kernel, rfl⟩
theorem eX10_with_183 : eb_gf mX10_with 183 186 9 17 := ⟨43, (RX10, TX10, 29), by decide +kernel, rfl, rfl, by decide, wd_721⟩
theorem eX10_with_186 : eb_at mX10_with 186 187 (.iload_n 2) 1 := ⟨by decide +kernel, rfl⟩
theorem eX10_with_187 : eb_at mX10_with 187 188 (.iaload) 1 := ⟨by decide +kernel, rfl⟩
theorem eX10_with_188 : eb_at mX10_with 188 189 (.ireturn) 1 := ⟨by decide +kernel, rfl⟩
end
section
theorem eX10_word_0 : eb_at mX10_word 0 1 (.aload_n 0) 1 := ⟨by decide +kernel, rfl⟩
theorem eX10_word_1 : eb_at mX10_word 1 2 (.iload_n 1) 1 := ⟨by decide +kernel, rfl⟩
theorem eX10_word_2 : eb_cv mX10_word 2 5 mX10_isWord 1 := ⟨153, (RX10, TX10, 29), by decide +kernel, rfl, wd_837, wd_839, wd_23, by decide, rfl, rfl, okX10_isWord⟩
theorem eX10_word_5 : eb_at mX10_word 5 8 (.ifCond .ne 6) 3 := ⟨by decide +kernel, rfl⟩
theorem eX10_word_8 : eb_at mX10_word 8 10 (.ldc 157) 2 := ⟨by decide +kernel, rfl⟩
theorem eX10_word_10 : eb_at mX10_word 10 11 (.ireturn) 1 := ⟨by decide +kernel, rfl⟩
theorem eX10_word_11 : eb_at mX10_word 11 12 (.iload_n 2) 1 := ⟨by decide +kernel, rfl⟩
theorem eX10_word_12 : eb_at mX10_word 12 13 (.i2l) 1 := ⟨by decide +kernel, rfl⟩
theorem eX10_word_13 : eb_at mX10_word 13 14 (.lconst 0) 1 := ⟨by decide +kernel, rfl⟩
theorem eX10_word_14 : eb_at mX10_word 14 17 (.ldc2_w 158) 3 := ⟨by decide +kernel, rfl⟩
theorem eX10_word_17 : eb_cs mX10_word 17 20 mX10_in 3 := ⟨70, by decide +kernel, rfl, wd_798, wd_799, by decide, okX10_in⟩
theorem eX10_word_20 : eb_at mX10_word 20 23 (.ifCond .ne 6) 3 := ⟨by decide +kernel, rfl⟩
theorem eX10_word_23 : eb_at mX10_word 23 25 (.ldc 76) 2 := ⟨by decide +kernel, rfl⟩
theorem eX10_word_25 : eb_at mX10_word 25 26 (.ireturn) 1 := ⟨by decide +kernel, rfl⟩
theorem eX10_word_26 : eb_at mX10_word 26 27 (.iload_n 2) 1 := ⟨by decide +kernel, rfl⟩
theorem eX10_word_27 : eb_at mX10_word 27 56 (.tableswitch 56 0 3 #[29, 35, 44, 50]) 29 := ⟨by decide +kernel, rfl⟩
theorem eX10_word_56 : eb_at mX10_word 56 57 (.aload_n 0) 1 := ⟨by decide +kernel, rfl⟩
theorem eX10_word_57 : eb_at mX10_word 57 58 (.iload_n 1) 1 := ⟨by decide +kernel, rfl⟩
theorem eX10_word_58 : eb_cv mX10_word 58 61 mX10_wordWidth 1 := ⟨123, (RX10, TX10, 29), by decide +kernel, rfl, wd_843, wd_845, wd_24, by decide, rfl, rfl, okX10_wordWidth⟩
theorem eX10_word_61 : eb_at mX10_word 61 62 (.ireturn) 1 := ⟨by decide +kernel, rfl⟩
theorem eX10_word_62 : eb_at mX10_word 62 63 (.aload_n 0) 1 := ⟨by decide +kernel, rfl⟩
theorem eX10_word_63 : eb_gf mX10_word 63 66 9 0 := ⟨7, (RX10, TX10, 29), by decide +kernel, rfl, rfl, by decide, wd_704⟩
theorem eX10_word_66 : eb_at mX10_word 66 67 (.iconst 5) 1 := ⟨by decide +kernel, rfl⟩
theorem eX10_word_67 : eb_at mX10_word 67 68 (.iload_n 1) 1 := ⟨by decide +kernel, rfl⟩
theorem eX10_word_68 : eb_at mX10_word 68 69 (.iadd) 1 := ⟨by decide +kernel, rfl⟩
theorem eX10_word_69 : eb_at mX10_word 69 70 (.iaload) 1 := ⟨by decide +kernel, rfl⟩
theorem eX10_word_70 : eb_at mX10_word 70 71 (.ireturn) 1 := ⟨by decide +kernel, rfl⟩
theorem eX10_word_71 : eb_at mX10_word 71 72 (.aload_n 0) 1 := ⟨by decide +kernel, rfl⟩
theorem eX10_word_72 : eb_at mX10_word 72 73 (.iload_n 1) 1 := ⟨by decide +kernel, rfl⟩
theorem eX10_word_73 : eb_cv mX10_word 73 76 mX10_lineOf 1 := ⟨160, (RX10, TX10, 29), by decide +kernel, rfl, wd_850, wd_852, wd_25, by decide, rfl, rfl, okX10_lineOf⟩
theorem eX10_word_76 : eb_at mX10_word 76 77 (.ireturn) 1 := ⟨by decide +kernel, rfl⟩
theorem eX10_word_77 : eb_at mX10_word 77 78 (.aload_n 0) 1 := ⟨by decide +kernel, rfl⟩
theorem eX10_word_78 : eb_at mX10_word 78 79 (.iload_n 1) 1 := ⟨by decide +kernel, rfl⟩
theorem eX10_word_79 : eb_cv mX10_word 79 82 mX10_growsOf 1 := ⟨163, (RX10, TX10, 29), by decide +kernel, rfl, wd_889, wd_891, wd_33, by decide, rfl, rfl, okX10_growsOf⟩
theorem eX10_word_82 : eb_at mX10_word 82 83 (.ireturn) 1 := ⟨by decide +kernel, rfl⟩
theorem eX10_word_83 : eb_at mX10_word 83 84 (.iload_n 2) 1 := ⟨by decide +kernel, rfl⟩
theorem eX10_word_84 : eb_at mX10_word 84 85 (.iconst 4) 1 := ⟨by decide +kernel, rfl⟩
theorem eX10_word_85 : eb_at mX10_word 85 86 (.isub) 1 := ⟨by decide +kernel, rfl⟩
theorem eX10_word_86 : eb_at mX10_word 86 87 (.aload_n 0) 1 := ⟨by decide +kernel, rfl⟩
theorem eX10_word_87 : eb_gf mX10_word 87 90 9 0 := ⟨7, (RX10, TX10, 29), by decide +kernel, rfl, rfl, by decide, wd_704⟩
theorem eX10_word_90 : eb_at mX10_word 90 91 (.iconst 5) 1 := ⟨by decide +kernel, rfl⟩
theorem eX10_word_91 : eb_at mX10_word 91 92 (.iload_n 1) 1 := ⟨by decide +kernel, rfl⟩
theorem eX10_word_92 : eb_at mX10_word 92 93 (.iadd) 1 := ⟨by decide +kernel, rfl⟩
theorem eX10_word_93 : eb_at mX10_word 93 94 (.iaload) 1 := ⟨by decide +kernel, rfl⟩
theorem eX10_word_94 : eb_at mX10_word 94 97 (.if_icmp .ge 22) 3 := ⟨by decide +kernel, rfl⟩
theorem eX10_word_97 : eb_at mX10_word 97 98 (.aload_n 0) 1 := ⟨by decide +kernel, rfl⟩
theorem eX10_word_98 : eb_gf mX10_word 98 101 9 0 := ⟨7, (RX10, TX10, 29), by decide +kernel, rfl, rfl, by decide, wd_704⟩
theorem eX10_word_101 : eb_at mX10_word 101 103 (.bipush 45) 2 := ⟨by decide +kernel, rfl⟩
theorem eX10_word_103 : eb_at mX10_word 103 105 (.bipush 12) 2 := ⟨by decide +kernel, rfl⟩
theorem eX10_word_105 : eb_at mX10_word 105 106 (.iload_n 1) 1 := ⟨by decide +kernel, rfl⟩
theorem eX10_word_106 : eb_at mX10_word 106 107 (.imul) 1 := ⟨by decide +kernel, rfl⟩
theorem eX10_word_107 : eb_at mX10_word 107 108 (.iadd) 1 := ⟨by decide +kernel, rfl⟩
theorem eX10_word_108 : eb_at mX10_word 108 109 (.iload_n 2) 1 := ⟨by decide +kernel, rfl⟩
theorem eX10_word_109 : eb_at mX10_word 109 110 (.iadd) 1 := ⟨by decide +kernel, rfl⟩
theorem eX10_word_110 : eb_at mX10_word 110 111 (.iconst 4) 1 := ⟨by decide +kernel, rfl⟩
theorem eX10_word_111 : eb_at mX10_word 111 112 (.isub) 1 := ⟨by decide +kernel, rfl⟩
theorem eX10_word_112 : eb_at mX10_word 112 113 (.iaload) 1 := ⟨by decide +kernel, rfl⟩
theorem eX10_word_113 : eb_at mX10_word 113 116 (.goto 4) 3 := ⟨by decide +kernel, rfl⟩
theorem eX10_word_116 : eb_at mX10_word 116 117 (.iconst (-1)) 1 := ⟨by decide +kernel, rfl⟩
theorem eX10_word_117 : eb_at mX10_word 117 118 (.ireturn) 1 := ⟨by decide +kernel, rfl⟩
theorem eX10_wordWidth_0 : eb_at mX10_wordWidth 0 1 (.iconst 0) 1 := ⟨by decide +kernel, rfl⟩
theorem eX10_wordWidth_1 : eb_at mX10_wordWidth 1 2 (.istore_n 2) 1 := ⟨by decide +kernel, rfl⟩
theorem eX10_wordWidth_2 : eb_at mX10_wordWidth 2 3 (.iconst 0) 1 := ⟨by decide +kernel, rfl⟩
theorem eX10_wordWidth_3 : eb_at mX10_wordWidth 3 4 (.istore_n 3) 1 := ⟨by decide +kernel, rfl⟩
theorem eX10_wordWidth_4 : eb_at mX10_wordWidth 4 5 (.iload_n 3) 1 := ⟨by decide +kernel, rfl⟩
theorem eX10_wordWidth_5 : eb_at mX10_wordWidth 5 6 (.aload_n 0) 1 := ⟨by decide +kernel, rfl⟩
theorem eX10_wordWidth_6 : eb_gf mX10_wordWidth 6 9 9 0 := ⟨7, (RX10, TX10, 29), by decide +kernel, rfl, rfl, by decide, wd_704⟩
theorem eX10_wordWidth_9 : eb_at mX10_wordWidth 9 10 (.iconst 5) 1 := ⟨by decide +kernel, rfl⟩
theorem eX10_wordWidth_10 : eb_at mX10_wordWidth 10 11 (.iload_n 1) 1 := ⟨by decide +kernel, rfl⟩
theorem eX10_wordWidth_11 : eb_at mX10_wordWidth 11 12 (.iadd) 1 := ⟨by decide +kernel, rfl⟩
theorem eX10_wordWidth_12 : eb_at mX10_wordWidth 12 13 (.iaload) 1 := ⟨by decide +kernel, rfl⟩
theorem eX10_wordWidth_13 : eb_at mX10_wordWidth 13 16 (.if_icmp .ge 29) 3 := ⟨by decide +kernel, rfl⟩
theorem eX10_wordWidth_16 : eb_at mX10_wordWidth 16 17 (.iload_n 2) 1 := ⟨by decide +kernel, rfl⟩
theorem eX10_wordWidth_17 : eb_at mX10_wordWidth 17 18 (.aload_n 0) 1 := ⟨by decide +kernel, rfl⟩
theorem eX10_wordWidth_18 : eb_gf mX10_wordWidth 18 21 9 0 := ⟨7, (RX10, TX10, 29), by decide +kernel, rfl, rfl, by decide, wd_704⟩
theorem eX10_wordWidth_21 : eb_at mX10_wordWidth 21 23 (.bipush 45) 2 := ⟨by decide +kernel, rfl⟩
theorem eX10_wordWidth_23 : eb_at mX10_wordWidth 23 25 (.bipush 12) 2 := ⟨by decide +kernel, rfl⟩
theorem eX10_wordWidth_25 : eb_at mX10_wordWidth 25 26 (.iload_n 1) 1 := ⟨by decide +kernel, rfl⟩
theorem eX10_wordWidth_26 : eb_at mX10_wordWidth 26 27 (.imul) 1 := ⟨by decide +kernel, rfl⟩
theorem eX10_wordWidth_27 : eb_at mX10_wordWidth 27 28 (.iadd) 1 := ⟨by decide +kernel, rfl⟩
theorem eX10_wordWidth_28 : eb_at mX10_wordWidth 28 29 (.iload_n 3) 1 := ⟨by decide +kernel, rfl⟩
theorem eX10_wordWidth_29 : eb_at mX10_wordWidth 29 30 (.iadd) 1 := ⟨by decide +kernel, rfl⟩
theorem eX10_wordWidth_30 : eb_at mX10_wordWidth 30 31 (.iaload) 1 := ⟨by decide +kernel, rfl⟩
theorem eX10_wordWidth_31 : eb_cs mX10_wordWidth 31 34 mX10_widthOf 1 := ⟨110, by decide +kernel, rfl, wd_847, wd_848, by decide, okX10_widthOf⟩
theorem eX10_wordWidth_34 : eb_at mX10_wordWidth 34 35 (.iadd) 1 := ⟨by decide +kernel, rfl⟩
theorem eX10_wordWidth_35 : eb_at mX10_wordWidth 35 36 (.istore_n 2) 1 := ⟨by decide +kernel, rfl⟩
theorem eX10_wordWidth_36 : eb_at mX10_wordWidth 36 39 (.iinc 3 1) 3 := ⟨by decide +kernel, rfl⟩
theorem eX10_wordWidth_39 : eb_at mX10_wordWidth 39 42 (.goto (-35)) 3 := ⟨by decide +kernel, rfl⟩
theorem eX10_wordWidth_42 : eb_at mX10_wordWidth 42 43 (.iload_n 2) 1 := ⟨by decide +kernel, rfl⟩
theorem eX10_wordWidth_43 : eb_at mX10_wordWidth 43 44 (.ireturn) 1 := ⟨by decide +kernel, rfl⟩
theorem eX10_write_0 : eb_at mX10_write 0 1 (.iload_n 2) 1 := ⟨by decide +kernel, rfl⟩
theorem eX10_write_1 : eb_at mX10_write 1 2 (.iconst (-1)) 1 := ⟨by decide +kernel, rfl⟩
theorem eX10_write_2 : eb_at mX10_write 2 5 (.if_icmp .eq 14) 3 := ⟨by decide +kernel, rfl⟩
theorem eX10_write_5 : eb_at mX10_write 5 6 (.aload_n 0) 1 := ⟨by decide +kernel, rfl⟩
theorem eX10_write_6 : eb_at mX10_write 6 7 (.iload_n 2) 1 := ⟨by decide +kernel, rfl⟩
theorem eX10_write_7 : eb_cv mX10_write 7 10 mX10_isEnd 1 := ⟨169, (RX10, TX10, 29), by decide +kernel, rfl, wd_901, wd_903, wd_35, by decide, rfl, rfl, okX10_isEnd⟩
theorem eX10_write_10 : eb_at mX10_write 10 13 (.ifCond .ne 6) 3 := ⟨by decide +kernel, rfl⟩
theorem eX10_write_13 : eb_at mX10_write 13 15 (.ldc 157) 2 := ⟨by decide +kernel, rfl⟩
theorem eX10_write_15 : eb_at mX10_write 15 16 (.ireturn) 1 := ⟨by decide +kernel, rfl⟩
theorem eX10_write_16 : eb_at mX10_write 16 17 (.iload_n 1) 1 := ⟨by decide +kernel, rfl⟩
theorem eX10_write_17 : eb_at mX10_write 17 18 (.i2l) 1 := ⟨by decide +kernel, rfl⟩
theorem eX10_write_18 : eb_at mX10_write 18 19 (.lconst 0) 1 := ⟨by decide +kernel, rfl⟩
theorem eX10_write_19 : eb_at mX10_write 19 22 (.ldc2_w 231) 3 := ⟨by decide +kernel, rfl⟩
theorem eX10_write_22 : eb_cs mX10_write 22 25 mX10_in 3 := ⟨70, by decide +kernel, rfl, wd_798, wd_799, by decide, okX10_in⟩
theorem eX10_write_25 : eb_at mX10_write 25 28 (.ifCond .ne 6) 3 := ⟨by decide +kernel, rfl⟩
theorem eX10_write_28 : eb_at mX10_write 28 30 (.ldc 76) 2 := ⟨by decide +kernel, rfl⟩
theorem eX10_write_30 : eb_at mX10_write 30 31 (.ireturn) 1 := ⟨by decide +kernel, rfl⟩
theorem eX10_write_31 : eb_at mX10_write 31 32 (.aload_n 0) 1 := ⟨by decide +kernel, rfl⟩
theorem eX10_write_32 : eb_gf mX10_write 32 35 9 21 := ⟨233, (RX10, TX10, 29), by decide +kernel, rfl, rfl, by decide, wd_725⟩
theorem eX10_write_35 : eb_at mX10_write 35 37 (.bipush 20) 2 := ⟨by decide +kernel, rfl⟩
theorem eX10_write_37 : eb_at mX10_write 37 40 (.if_icmp .ne 6) 3 := ⟨by decide +kernel, rfl⟩
theorem eX10_write_40 : eb_at mX10_write 40 42 (.ldc 80) 2 := ⟨by decide +kernel, rfl⟩
theorem eX10_write_42 : eb_at mX10_write 42 43 (.ireturn) 1 := ⟨by decide +kernel, rfl⟩
theorem eX10_write_43 : eb_at mX10_write 43 44 (.aload_n 0) 1 := ⟨by decide +kernel, rfl⟩
theorem eX10_write_44 : eb_gf mX10_write 44 47 9 20 := ⟨49, (RX10, TX10, 29), by decide +kernel, rfl, rfl, by decide, wd_724⟩
theorem eX10_write_47 : eb_at mX10_write 47 48 (.iconst 2) 1 := ⟨by decide +kernel, rfl⟩
theorem eX10_write_48 : eb_at mX10_write 48 49 (.aload_n 0) 1 := ⟨by decide +kernel, rfl⟩
theorem eX10_write_49 : eb_gf mX10_write 49 52 9 21 := ⟨233, (RX10, TX10, 29), by decide +kernel, rfl, rfl, by decide, wd_725⟩
theorem eX10_write_52 : eb_at mX10_write 52 53 (.imul) 1 := ⟨by decide +kernel, rfl⟩
theorem eX10_write_53 : eb_at mX10_write 53 54 (.iload_n 1) 1 := ⟨by decide +kernel, rfl⟩
theorem eX10_write_54 : eb_at mX10_write 54 55 (.iastore) 1 := ⟨by decide +kernel, rfl⟩
theorem eX10_write_55 : eb_at mX10_write 55 56 (.aload_n 0) 1 := ⟨by decide +kernel, rfl⟩
theorem eX10_write_56 : eb_gf mX10_write 56 59 9 20 := ⟨49, (RX10, TX10, 29), by decide +kernel, rfl, rfl, by decide, wd_724⟩
theorem eX10_write_59 : eb_at mX10_write 59 60 (.iconst 2) 1 := ⟨by decide +kernel, rfl⟩
theorem eX10_write_60 : eb_at mX10_write 60 61 (.aload_n 0) 1 := ⟨by decide +kernel, rfl⟩
theorem eX10_write_61 : eb_gf mX10_write 61 64 9 21 := ⟨233, (RX10, TX10, 29), by decide +kernel, rfl, rfl, by decide, wd_725⟩
theorem eX10_write_64 : eb_at mX10_write 64 65 (.imul) 1 := ⟨by decide +kernel, rfl⟩
theorem eX10_write_65 : eb_at mX10_write 65 66 (.iconst 1) 1 := ⟨by decide +kernel, rfl⟩
theorem eX10_write_66 : eb_at mX10_write 66 67 (.iadd) 1 := ⟨by decide +kernel, rfl⟩
theorem eX10_write_67 : eb_at mX10_write 67 68 (.iload_n 2) 1 := ⟨by decide +kernel, rfl⟩
theorem eX10_write_68 : eb_at mX10_write 68 69 (.iastore) 1 := ⟨by decide +kernel, rfl⟩
theorem eX10_write_69 : eb_at mX10_write 69 70 (.aload_n 0) 1 := ⟨by decide +kernel, rfl⟩
theorem eX10_write_70 : eb_at mX10_write 70 71 (.dup) 1 := ⟨by decide +kernel, rfl⟩
theorem eX10_write_71 : eb_gf mX10_write 71 74 9 21 := ⟨233, (RX10, TX10, 29), by decide +kernel, rfl, rfl, by decide, wd_725⟩
theorem eX10_write_74 : eb_at mX10_write 74 75 (.iconst 1) 1 := ⟨by decide +kernel, rfl⟩
theorem eX10_write_75 : eb_at mX10_write 75 76 (.iadd) 1 := ⟨by decide +kernel, rfl⟩
theorem eX10_write_76 : eb_pf mX10_write 76 79 9 21 false .int := ⟨233, (RX10, TX10, 29), by decide +kernel, rfl, rfl, by decide, wd_725, rfl, by decide +kernel, fun h => absurd h (by decide)⟩
theorem eX10_write_79 : eb_at mX10_write 79 80 (.aload_n 0) 1 := ⟨by decide +kernel, rfl⟩
theorem eX10_write_80 : eb_gf mX10_write 80 83 9 21 := ⟨233, (RX10, TX10, 29), by decide +kernel, rfl, rfl, by decide, wd_725⟩
theorem eX10_write_83 : eb_at mX10_write 83 84 (.ireturn) 1 := ⟨by decide +kernel, rfl⟩
theorem eX10_wrongEntry_0 : eb_at mX10_wrongEntry 0 1 (.aload_n 0) 1 := ⟨by decide +kernel, rfl⟩
theorem eX10_wrongEntry_1 : eb_cv mX10_wrongEntry 1 4 mX10_layLines 0 := ⟨146, (RX10, TX10, 29), by decide +kernel, rfl, wd_854, wd_856, wd_26, by decide, rfl, rfl, okX10_layLines⟩
theorem eX10_wrongEntry_4 : eb_at mX10_wrongEntry 4 5 (.iconst 0) 1 := ⟨by decide +kernel, rfl⟩
theorem eX10_wrongEntry_5 : eb_at mX10_wrongEntry 5 6 (.istore_n 1) 1 := ⟨by decide +kernel, rfl⟩
theorem eX10_wrongEntry_6 : eb_at mX10_wrongEntry 6 7 (.iload_n 1) 1 := ⟨by decide +kernel, rfl⟩
theorem eX10_wrongEntry_7 : eb_at mX10_wrongEntry 7 8 (.aload_n 0) 1 := ⟨by decide +kernel, rfl⟩
theorem eX10_wrongEntry_8 : eb_gf mX10_wrongEntry 8 11 9 21 := ⟨233, (RX10, TX10, 29), by decide +kernel, rfl, rfl, by decide, wd_725⟩
theorem eX10_wrongEntry_11 : eb_at mX10_wrongEntry 11 14 (.if_icmp .ge 53) 3 := ⟨by decide +kernel, rfl⟩
theorem eX10_wrongEntry_14 : eb_at mX10_wrongEntry 14 15 (.aload_n 0) 1 := ⟨by decide +kernel, rfl⟩
theorem eX10_wrongEntry_15 : eb_gf mX10_wrongEntry 15 18 9 20 := ⟨49, (RX10, TX10, 29), by decide +kernel, rfl, rfl, by decide, wd_724⟩
theorem eX10_wrongEntry_18 : eb_at mX10_wrongEntry 18 19 (.iconst 2) 1 := ⟨by decide +kernel, rfl⟩
theorem eX10_wrongEntry_19 : eb_at mX10_wrongEntry 19 20 (.iload_n 1) 1 := ⟨by decide +kernel, rfl⟩
theorem eX10_wrongEntry_20 : eb_at mX10_wrongEntry 20 21 (.imul) 1 := ⟨by decide +kernel, rfl⟩
theorem eX10_wrongEntry_21 : eb_at mX10_wrongEntry 21 22 (.iaload) 1 := ⟨by decide +kernel, rfl⟩
theorem eX10_wrongEntry_22 : eb_at mX10_wrongEntry 22 23 (.istore_n 2) 1 := ⟨by decide +kernel, rfl⟩
theorem eX10_wrongEntry_23 : eb_at mX10_wrongEntry 23 24 (.iload_n 2) 1 := ⟨by decide +kernel, rfl⟩
theorem eX10_wrongEntry_24 : eb_at mX10_wrongEntry 24 25 (.aload_n 0) 1 := ⟨by decide +kernel, rfl⟩
theorem eX10_wrongEntry_25 : eb_gf mX10_wrongEntry 25 28 9 16 := ⟨140, (RX10, TX10, 29), by decide +kernel, rfl, rfl, by decide, wd_720⟩
theorem eX10_wrongEntry_28 : eb_at mX10_wrongEntry 28 31 (.if_icmp .ge 12) 3 := ⟨by decide +kernel, rfl⟩
theorem eX10_wrongEntry_31 : eb_at mX10_wrongEntry 31 32 (.aload_n 0) 1 := ⟨by decide +kernel, rfl⟩
theorem eX10_wrongEntry_32 : eb_gf mX10_wrongEntry 32 35 9 15 := ⟨40, (RX10, TX10, 29), by decide +kernel, rfl, rfl, by decide, wd_719⟩
theorem eX10_wrongEntry_35 : eb_at mX10_wrongEntry 35 36 (.iload_n 2) 1 := ⟨by decide +kernel, rfl⟩
theorem eX10_wrongEntry_36 : eb_at mX10_wrongEntry 36 37 (.iaload) 1 := ⟨by decide +kernel, rfl⟩
theorem eX10_wrongEntry_37 : eb_at mX10_wrongEntry 37 40 (.goto 4) 3 := ⟨by decide +kernel, rfl⟩
theorem eX10_wrongEntry_40 : eb_at mX10_wrongEntry 40 41 (.iconst (-1)) 1 := ⟨by decide +kernel, rfl⟩
theorem eX10_wrongEntry_41 : eb_at mX10_wrongEntry 41 42 (.istore_n 3) 1 := ⟨by decide +kernel, rfl⟩
theorem eX10_wrongEntry_42 : eb_at mX10_wrongEntry 42 43 (.iload_n 3) 1 := ⟨by decide +kernel, rfl⟩
theorem eX10_wrongEntry_43 : eb_at mX10_wrongEntry 43 44 (.aload_n 0) 1 := ⟨by decide +kernel, rfl⟩
theorem eX10_wrongEntry_44 : eb_gf mX10_wrongEntry 44 47 9 20 := ⟨49, (RX10, TX10, 29), by decide +kernel, rfl, rfl, by decide, wd_724⟩
theorem eX10_wrongEntry_47 : eb_at mX10_wrongEntry 47 48 (.iconst 2) 1 := ⟨by decide +kernel, rfl⟩
theorem eX10_wrongEntry_48 : eb_at mX10_wrongEntry 48 49 (.iload_n 1) 1 := ⟨by decide +kernel, rfl⟩
theorem eX10_wrongEntry_49 : eb_at mX10_wrongEntry 49 50 (.imul) 1 := ⟨by decide +kernel, rfl⟩
theorem eX10_wrongEntry_50 : eb_at mX10_wrongEntry 50 51 (.iconst 1) 1 := ⟨by decide +kernel, rfl⟩
theorem eX10_wrongEntry_51 : eb_at mX10_wrongEntry 51 52 (.iadd) 1 := ⟨by decide +kernel, rfl⟩
theorem eX10_wrongEntry_52 : eb_at mX10_wrongEntry 52 53 (.iaload) 1 := ⟨by decide +kernel, rfl⟩
theorem eX10_wrongEntry_53 : eb_at mX10_wrongEntry 53 56 (.if_icmp .eq 5) 3 := ⟨by decide +kernel, rfl⟩
theorem eX10_wrongEntry_56 : eb_at mX10_wrongEntry 56 57 (.iload_n 1) 1 := ⟨by decide +kernel, rfl⟩
theorem eX10_wrongEntry_57 : eb_at mX10_wrongEntry 57 58 (.ireturn) 1 := ⟨by decide +kernel, rfl⟩
theorem eX10_wrongEntry_58 : eb_at mX10_wrongEntry 58 61 (.iinc 1 1) 3 := ⟨by decide +kernel, rfl⟩
theorem eX10_wrongEntry_61 : eb_at mX10_wrongEntry 61 64 (.goto (-55)) 3 := ⟨by decide +kernel, rfl⟩
theorem eX10_wrongEntry_64 : eb_at mX10_wrongEntry 64 65 (.iconst (-1)) 1 := ⟨by decide +kernel, rfl⟩
theorem eX10_wrongEntry_65 : eb_at mX10_wrongEntry 65 66 (.ireturn) 1 := ⟨by decide +kernel, rfl⟩
theorem eX10_wrongs_0 : eb_at mX10_wrongs 0 1 (.aload_n 0) 1 := ⟨by decide +kernel, rfl⟩
theorem eX10_wrongs_1 : eb_at mX10_wrongs 1 2 (.iload_n 2) 1 := ⟨by decide +kernel, rfl⟩
theorem eX10_wrongs_2 : eb_pf mX10_wrongs 2 5 9 6 false .int := ⟨66, (RX10, TX10, 29), by decide +kernel, rfl, rfl, by decide, wd_710, rfl, by decide +kernel, fun h => absurd h (by decide)⟩
theorem eX10_wrongs_5 : eb_at mX10_wrongs 5 7 (.bipush (-10)) 2 := ⟨by decide +kernel, rfl⟩
theorem eX10_wrongs_7 : eb_at mX10_wrongs 7 8 (.iload_n 1) 1 := ⟨by decide +kernel, rfl⟩
theorem eX10_wrongs_8 : eb_at mX10_wrongs 8 9 (.isub) 1 := ⟨by decide +kernel, rfl⟩
theorem eX10_wrongs_9 : eb_at mX10_wrongs 9 10 (.ireturn) 1 := ⟨by decide +kernel, rfl⟩
end
section
theorem eX2_init_0 : eb_at mX2_init 0 1 (.aload_n 0) 1 := ⟨by decide +kernel, rfl⟩
theorem eX2_init_1 : eb_at mX2_init 1 4 (.invokespecial 1) 3 := ⟨by decide +kernel, rfl⟩
theorem eX2_init_4 : eb_at mX2_init 4 5 (.aload_n 0) 1 := ⟨by decide +kernel, rfl⟩
theorem eX2_init_5 : eb_nw_at mX2_init 5 8 6 [.null, .int (eb_I 0), .int (eb_I 0), .int (eb_I 0), .int (eb_I 0), .int (eb_I 0)] 6 := ⟨7, (RX7, TX7, 6), by decide +kernel, rfl, rfl, rfl, wd_276, wd_74, wd_53, by decide +kernel⟩
theorem eX2_init_8 : eb_at mX2_init 8 9 (.dup) 1 := ⟨by decide +kernel, rfl⟩
theorem eX2_init_9 : eb_cc mX2_init 9 12 mX7_init 0 := ⟨9, by decide +kernel, rfl, Or.inr ⟨"EvenBreaks", List.mem_filter.mpr ⟨List.mem_of_getElem? (i := 277) (by decide +kernel), rfl⟩⟩, rfl, wd_76, by decide, rfl, okX7_init⟩
theorem eX2_init_12 : eb_pf mX2_init 12 15 2 0 true (.object "EvenBreaks$Text") := ⟨10, (RX2, TX2, 3), by decide +kernel, rfl, rfl, by decide, wd_278, rfl, by decide +kernel, fun _ => ⟨rfl, rfl⟩⟩
theorem eX2_init_15 : eb_at mX2_init 15 16 (.aload_n 0) 1 := ⟨by decide +kernel, rfl⟩
theorem eX2_init_16 : eb_at mX2_init 16 17 (.iconst 0) 1 := ⟨by decide +kernel, rfl⟩
theorem eX2_init_17 : eb_pf mX2_init 17 20 2 1 false .int := ⟨16, (RX2, TX2, 3), by decide +kernel, rfl, rfl, by decide, wd_280, rfl, by decide +kernel, fun h => absurd h (by decide)⟩
theorem eX2_init_20 : eb_at mX2_init 20 21 (.aload_n 0) 1 := ⟨by decide +kernel, rfl⟩
theorem eX2_init_21 : eb_at mX2_init 21 22 (.iconst 0) 1 := ⟨by decide +kernel, rfl⟩
theorem eX2_init_22 : eb_pf mX2_init 22 25 2 2 false .boolean := ⟨20, (RX2, TX2, 3), by decide +kernel, rfl, rfl, by decide, wd_282, rfl, by decide +kernel, fun h => absurd h (by decide)⟩
theorem eX2_init_25 : eb_at mX2_init 25 26 (.return_) 1 := ⟨by decide +kernel, rfl⟩
end
section
theorem eX3_beginOf_0 : eb_at mX3_beginOf 0 1 (.iload_n 1) 1 := ⟨by decide +kernel, rfl⟩
theorem eX3_beginOf_1 : eb_at mX3_beginOf 1 4 (.ifCond .lt 20) 3 := ⟨by decide +kernel, rfl⟩
theorem eX3_beginOf_4 : eb_at mX3_beginOf 4 5 (.iload_n 1) 1 := ⟨by decide +kernel, rfl⟩
theorem eX3_beginOf_5 : eb_at mX3_beginOf 5 6 (.aload_n 0) 1 := ⟨by decide +kernel, rfl⟩
theorem eX3_beginOf_6 : eb_gf mX3_beginOf 6 9 3 11 := ⟨44, (RX3, TX3, 13), by decide +kernel, rfl, rfl, by decide, wd_211⟩
theorem eX3_beginOf_9 : eb_at mX3_beginOf 9 12 (.if_icmp .ge 12) 3 := ⟨by decide +kernel, rfl⟩
theorem eX3_beginOf_12 : eb_at mX3_beginOf 12 13 (.aload_n 0) 1 := ⟨by decide +kernel, rfl⟩
theorem eX3_beginOf_13 : eb_gf mX3_beginOf 13 16 3 4 := ⟨21, (RX3, TX3, 13), by decide +kernel, rfl, rfl, by decide, wd_203⟩
theorem eX3_beginOf_16 : eb_at mX3_beginOf 16 17 (.iload_n 1) 1 := ⟨by decide +kernel, rfl⟩
theorem eX3_beginOf_17 : eb_at mX3_beginOf 17 18 (.iaload) 1 := ⟨by decide +kernel, rfl⟩
theorem eX3_beginOf_18 : eb_at mX3_beginOf 18 21 (.goto 4) 3 := ⟨by decide +kernel, rfl⟩
theorem eX3_beginOf_21 : eb_at mX3_beginOf 21 22 (.iconst (-1)) 1 := ⟨by decide +kernel, rfl⟩
theorem eX3_beginOf_22 : eb_at mX3_beginOf 22 23 (.ireturn) 1 := ⟨by decide +kernel, rfl⟩
theorem eX3_endOf_0 : eb_at mX3_endOf 0 1 (.iload_n 1) 1 := ⟨by decide +kernel, rfl⟩
theorem eX3_endOf_1 : eb_at mX3_endOf 1 2 (.iconst 1) 1 := ⟨by decide +kernel, rfl⟩
theorem eX3_endOf_2 : eb_at mX3_endOf 2 3 (.iadd) 1 := ⟨by decide +kernel, rfl⟩
theorem eX3_endOf_3 : eb_at mX3_endOf 3 4 (.aload_n 0) 1 := ⟨by decide +kernel, rfl⟩
theorem eX3_endOf_4 : eb_gf mX3_endOf 4 7 3 11 := ⟨44, (RX3, TX3, 13), by decide +kernel, rfl, rfl, by decide, wd_211⟩
theorem eX3_endOf_7 : eb_at mX3_endOf 7 10 (.if_icmp .ge 14) 3 := ⟨by decide +kernel, rfl⟩
theorem eX3_endOf_10 : eb_at mX3_endOf 10 11 (.aload_n 0) 1 := ⟨by decide +kernel, rfl⟩
theorem eX3_endOf_11 : eb_gf mX3_endOf 11 14 3 4 := ⟨21, (RX3, TX3, 13), by decide +kernel, rfl, rfl, by decide, wd_203⟩
theorem eX3_endOf_14 : eb_at mX3_endOf 14 15 (.iload_n 1) 1 := ⟨by decide +kernel, rfl⟩
theorem eX3_endOf_15 : eb_at mX3_endOf 15 16 (.iconst 1) 1 := ⟨by decide +kernel, rfl⟩
theorem eX3_endOf_16 : eb_at mX3_endOf 16 17 (.iadd) 1 := ⟨by decide +kernel, rfl⟩
theorem eX3_endOf_17 : eb_at mX3_endOf 17 18 (.iaload) 1 := ⟨by decide +kernel, rfl⟩
theorem eX3_endOf_18 : eb_at mX3_endOf 18 21 (.goto 7) 3 := ⟨by decide +kernel, rfl⟩
theorem eX3_endOf_21 : eb_at mX3_endOf 21 22 (.aload_n 0) 1 := ⟨by decide +kernel, rfl⟩
theorem eX3_endOf_22 : eb_gf mX3_endOf 22 25 3 6 := ⟨27, (RX3, TX3, 13), by decide +kernel, rfl, rfl, by decide, wd_205⟩
theorem eX3_endOf_25 : eb_at mX3_endOf 25 26 (.ireturn) 1 := ⟨by decide +kernel, rfl⟩
theorem eX3_firstCrossed_0 : eb_at mX3_firstCrossed 0 1 (.iconst 0) 1 := ⟨by decide +kernel, rfl⟩
theorem eX3_firstCrossed_1 : eb_at mX3_firstCrossed 1 2 (.istore_n 2) 1 := ⟨by decide +kernel, rfl⟩
theorem eX3_firstCrossed_2 : eb_at mX3_firstCrossed 2 3 (.iload_n 2) 1 := ⟨by decide +kernel, rfl⟩
theorem eX3_firstCrossed_3 : eb_at mX3_firstCrossed 3 4 (.aload_n 0) 1 := ⟨by decide +kernel, rfl⟩
theorem eX3_firstCrossed_4 : eb_gf mX3_firstCrossed 4 7 3 6 := ⟨27, (RX3, TX3, 13), by decide +kernel, rfl, rfl, by decide, wd_205⟩
theorem eX3_firstCrossed_7 : eb_at mX3_firstCrossed 7 10 (.if_icmp .ge 62) 3 := ⟨by decide +kernel, rfl⟩
theorem eX3_firstCrossed_10 : eb_at mX3_firstCrossed 10 11 (.iload_n 2) 1 := ⟨by decide +kernel, rfl⟩
theorem eX3_firstCrossed_11 : eb_at mX3_firstCrossed 11 12 (.iconst 1) 1 := ⟨by decide +kernel, rfl⟩
theorem eX3_firstCrossed_12 : eb_at mX3_firstCrossed 12 13 (.iadd) 1 := ⟨by decide +kernel, rfl⟩
theorem eX3_firstCrossed_13 : eb_at mX3_firstCrossed 13 14 (.istore_n 3) 1 := ⟨by decide +kernel, rfl⟩
theorem eX3_firstCrossed_14 : eb_at mX3_firstCrossed 14 15 (.iload_n 3) 1 := ⟨by decide +kernel, rfl⟩
theorem eX3_firstCrossed_15 : eb_at mX3_firstCrossed 15 16 (.aload_n 0) 1 := ⟨by decide +kernel, rfl⟩
theorem eX3_firstCrossed_16 : eb_gf mX3_firstCrossed 16 19 3 6 := ⟨27, (RX3, TX3, 13), by decide +kernel, rfl, rfl, by decide, wd_205⟩
theorem eX3_firstCrossed_19 : eb_at mX3_firstCrossed 19 22 (.if_icmp .ge 44) 3 := ⟨by decide +kernel, rfl⟩
theorem eX3_firstCrossed_22 : eb_at mX3_firstCrossed 22 23 (.aload_n 0) 1 := ⟨by decide +kernel, rfl⟩
theorem eX3_firstCrossed_23 : eb_at mX3_firstCrossed 23 24 (.iload_n 2) 1 := ⟨by decide +kernel, rfl⟩
theorem eX3_firstCrossed_24 : eb_at mX3_firstCrossed 24 25 (.iload_n 3) 1 := ⟨by decide +kernel, rfl⟩
theorem eX3_firstCrossed_25 : eb_at mX3_firstCrossed 25 26 (.iload_n 1) 1 := ⟨by decide +kernel, rfl⟩
theorem eX3_firstCrossed_26 : eb_cv mX3_firstCrossed 26 29 mX3_firstFall 3 := ⟨124, (RX3, TX3, 13), by decide +kernel, rfl, wd_436, wd_438, wd_9, by decide, rfl, rfl, okX3_firstFall⟩
theorem eX3_firstCrossed_29 : eb_at mX3_firstCrossed 29 31 (.istore 4) 2 := ⟨by decide +kernel, rfl⟩
theorem eX3_firstCrossed_31 : eb_at mX3_firstCrossed 31 33 (.iload 4) 2 := ⟨by decide +kernel, rfl⟩
theorem eX3_firstCrossed_33 : eb_at mX3_firstCrossed 33 34 (.iconst (-1)) 1 := ⟨by decide +kernel, rfl⟩
theorem eX3_firstCrossed_34 : eb_at mX3_firstCrossed 34 37 (.if_icmp .eq 23) 3 := ⟨by decide +kernel, rfl⟩
theorem eX3_firstCrossed_37 : eb_at mX3_firstCrossed 37 38 (.iload_n 2) 1 := ⟨by decide +kernel, rfl⟩
theorem eX3_firstCrossed_38 : eb_at mX3_firstCrossed 38 39 (.iconst 1) 1 := ⟨by decide +kernel, rfl⟩
theorem eX3_firstCrossed_39 : eb_at mX3_firstCrossed 39 40 (.iadd) 1 := ⟨by decide +kernel, rfl⟩
theorem eX3_firstCrossed_40 : eb_at mX3_firstCrossed 40 42 (.bipush 41) 2 := ⟨by decide +kernel, rfl⟩
theorem eX3_firstCrossed_42 : eb_at mX3_firstCrossed 42 43 (.imul) 1 := ⟨by decide +kernel, rfl⟩
theorem eX3_firstCrossed_43 : eb_at mX3_firstCrossed 43 44 (.iload_n 3) 1 := ⟨by decide +kernel, rfl⟩
theorem eX3_firstCrossed_44 : eb_at mX3_firstCrossed 44 45 (.iadd) 1 := ⟨by decide +kernel, rfl⟩
theorem eX3_firstCrossed_45 : eb_at mX3_firstCrossed 45 46 (.iconst 1) 1 := ⟨by decide +kernel, rfl⟩
theorem eX3_firstCrossed_46 : eb_at mX3_firstCrossed 46 47 (.iadd) 1 := ⟨by decide +kernel, rfl⟩
theorem eX3_firstCrossed_47 : eb_at mX3_firstCrossed 47 49 (.bipush 41) 2 := ⟨by decide +kernel, rfl⟩
theorem eX3_firstCrossed_49 : eb_at mX3_firstCrossed 49 50 (.imul) 1 := ⟨by decide +kernel, rfl⟩
theorem eX3_firstCrossed_50 : eb_at mX3_firstCrossed 50 52 (.bipush 41) 2 := ⟨by decide +kernel, rfl⟩
theorem eX3_firstCrossed_52 : eb_at mX3_firstCrossed 52 53 (.imul) 1 := ⟨by decide +kernel, rfl⟩
theorem eX3_firstCrossed_53 : eb_at mX3_firstCrossed 53 55 (.iload 4) 2 := ⟨by decide +kernel, rfl⟩
theorem eX3_firstCrossed_55 : eb_at mX3_firstCrossed 55 56 (.iadd) 1 := ⟨by decide +kernel, rfl⟩
theorem eX3_firstCrossed_56 : eb_at mX3_firstCrossed 56 57 (.ireturn) 1 := ⟨by decide +kernel, rfl⟩
theorem eX3_firstCrossed_57 : eb_at mX3_firstCrossed 57 60 (.iinc 3 1) 3 := ⟨by decide +kernel, rfl⟩
theorem eX3_firstCrossed_60 : eb_at mX3_firstCrossed 60 63 (.goto (-46)) 3 := ⟨by decide +kernel, rfl⟩
theorem eX3_firstCrossed_63 : eb_at mX3_firstCrossed 63 66 (.iinc 2 1) 3 := ⟨by decide +kernel, rfl⟩
theorem eX3_firstCrossed_66 : eb_at mX3_firstCrossed 66 69 (.goto (-64)) 3 := ⟨by decide +kernel, rfl⟩
theorem eX3_firstCrossed_69 : eb_at mX3_firstCrossed 69 70 (.iconst (-1)) 1 := ⟨by decide +kernel, rfl⟩
theorem eX3_firstCrossed_70 : eb_at mX3_firstCrossed 70 71 (.ireturn) 1 := ⟨by decide +kernel, rfl⟩
theorem eX3_firstFall_0 : eb_at mX3_firstFall 0 1 (.iconst 0) 1 := ⟨by decide +kernel, rfl⟩
theorem eX3_firstFall_1 : eb_at mX3_firstFall 1 3 (.istore 4) 2 := ⟨by decide +kernel, rfl⟩
theorem eX3_firstFall_3 : eb_at mX3_firstFall 3 4 (.iload_n 2) 1 := ⟨by decide +kernel, rfl⟩
theorem eX3_firstFall_4 : eb_at mX3_firstFall 4 5 (.iconst 1) 1 := ⟨by decide +kernel, rfl⟩
theorem eX3_firstFall_5 : eb_at mX3_firstFall 5 6 (.iadd) 1 := ⟨by decide +kernel, rfl⟩
theorem eX3_firstFall_6 : eb_at mX3_firstFall 6 8 (.istore 5) 2 := ⟨by decide +kernel, rfl⟩
theorem eX3_firstFall_8 : eb_at mX3_firstFall 8 10 (.iload 5) 2 := ⟨by decide +kernel, rfl⟩
theorem eX3_firstFall_10 : eb_at mX3_firstFall 10 11 (.aload_n 0) 1 := ⟨by decide +kernel, rfl⟩
theorem eX3_firstFall_11 : eb_gf mX3_firstFall 11 14 3 6 := ⟨27, (RX3, TX3, 13), by decide +kernel, rfl, rfl, by decide, wd_205⟩
theorem eX3_firstFall_14 : eb_at mX3_firstFall 14 17 (.if_icmp .gt 72) 3 := ⟨by decide +kernel, rfl⟩
theorem eX3_firstFall_17 : eb_at mX3_firstFall 17 18 (.aload_n 0) 1 := ⟨by decide +kernel, rfl⟩
theorem eX3_firstFall_18 : eb_gf mX3_firstFall 18 21 3 5 := ⟨24, (RX3, TX3, 13), by decide +kernel, rfl, rfl, by decide, wd_204⟩
theorem eX3_firstFall_21 : eb_at mX3_firstFall 21 23 (.iload 5) 2 := ⟨by decide +kernel, rfl⟩
theorem eX3_firstFall_23 : eb_at mX3_firstFall 23 24 (.iload_n 3) 1 := ⟨by decide +kernel, rfl⟩
theorem eX3_firstFall_24 : eb_at mX3_firstFall 24 25 (.aload_n 0) 1 := ⟨by decide +kernel, rfl⟩
theorem eX3_firstFall_25 : eb_at mX3_firstFall 25 26 (.iload_n 1) 1 := ⟨by decide +kernel, rfl⟩
theorem eX3_firstFall_26 : eb_at mX3_firstFall 26 28 (.iload 5) 2 := ⟨by decide +kernel, rfl⟩
theorem eX3_firstFall_28 : eb_cv mX3_firstFall 28 31 mX3_price 2 := ⟨100, (RX3, TX3, 13), by decide +kernel, rfl, wd_440, wd_441, wd_442, by decide, rfl, rfl, okX3_price⟩
theorem eX3_firstFall_31 : eb_at mX3_firstFall 31 32 (.aload_n 0) 1 := ⟨by decide +kernel, rfl⟩
theorem eX3_firstFall_32 : eb_at mX3_firstFall 32 33 (.iload_n 2) 1 := ⟨by decide +kernel, rfl⟩
theorem eX3_firstFall_33 : eb_at mX3_firstFall 33 35 (.iload 5) 2 := ⟨by decide +kernel, rfl⟩
theorem eX3_firstFall_35 : eb_cv mX3_firstFall 35 38 mX3_price 2 := ⟨100, (RX3, TX3, 13), by decide +kernel, rfl, wd_440, wd_441, wd_442, by decide, rfl, rfl, okX3_price⟩
theorem eX3_firstFall_38 : eb_at mX3_firstFall 38 39 (.isub) 1 := ⟨by decide +kernel, rfl⟩
theorem eX3_firstFall_39 : eb_at mX3_firstFall 39 40 (.imul) 1 := ⟨by decide +kernel, rfl⟩
theorem eX3_firstFall_40 : eb_at mX3_firstFall 40 41 (.iastore) 1 := ⟨by decide +kernel, rfl⟩
theorem eX3_firstFall_41 : eb_at mX3_firstFall 41 43 (.iload 4) 2 := ⟨by decide +kernel, rfl⟩
theorem eX3_firstFall_43 : eb_at mX3_firstFall 43 46 (.ifCond .ne 30) 3 := ⟨by decide +kernel, rfl⟩
theorem eX3_firstFall_46 : eb_at mX3_firstFall 46 48 (.iload 5) 2 := ⟨by decide +kernel, rfl⟩
theorem eX3_firstFall_48 : eb_at mX3_firstFall 48 49 (.iload_n 2) 1 := ⟨by decide +kernel, rfl⟩
theorem eX3_firstFall_49 : eb_at mX3_firstFall 49 50 (.iconst 1) 1 := ⟨by decide +kernel, rfl⟩
theorem eX3_firstFall_50 : eb_at mX3_firstFall 50 51 (.iadd) 1 := ⟨by decide +kernel, rfl⟩
theorem eX3_firstFall_51 : eb_at mX3_firstFall 51 54 (.if_icmp .le 26) 3 := ⟨by decide +kernel, rfl⟩
theorem eX3_firstFall_54 : eb_at mX3_firstFall 54 55 (.aload_n 0) 1 := ⟨by decide +kernel, rfl⟩
theorem eX3_firstFall_55 : eb_gf mX3_firstFall 55 58 3 5 := ⟨24, (RX3, TX3, 13), by decide +kernel, rfl, rfl, by decide, wd_204⟩
theorem eX3_firstFall_58 : eb_at mX3_firstFall 58 60 (.iload 5) 2 := ⟨by decide +kernel, rfl⟩
theorem eX3_firstFall_60 : eb_at mX3_firstFall 60 61 (.iaload) 1 := ⟨by decide +kernel, rfl⟩
theorem eX3_firstFall_61 : eb_at mX3_firstFall 61 62 (.aload_n 0) 1 := ⟨by decide +kernel, rfl⟩
theorem eX3_firstFall_62 : eb_gf mX3_firstFall 62 65 3 5 := ⟨24, (RX3, TX3, 13), by decide +kernel, rfl, rfl, by decide, wd_204⟩
theorem eX3_firstFall_65 : eb_at mX3_firstFall 65 67 (.iload 5) 2 := ⟨by decide +kernel, rfl⟩
theorem eX3_firstFall_67 : eb_at mX3_firstFall 67 68 (.iconst 1) 1 := ⟨by decide +kernel, rfl⟩
theorem eX3_firstFall_68 : eb_at mX3_firstFall 68 69 (.isub) 1 := ⟨by decide +kernel, rfl⟩
theorem eX3_firstFall_69 : eb_at mX3_firstFall 69 70 (.iaload) 1 := ⟨by decide +kernel, rfl⟩
theorem eX3_firstFall_70 : eb_at mX3_firstFall 70 73 (.if_icmp .ge 7) 3 := ⟨by decide +kernel, rfl⟩
theorem eX3_firstFall_73 : eb_at mX3_firstFall 73 74 (.iconst 1) 1 := ⟨by decide +kernel, rfl⟩
theorem eX3_firstFall_74 : eb_at mX3_firstFall 74 77 (.goto 4) 3 := ⟨by decide +kernel, rfl⟩
theorem eX3_firstFall_77 : eb_at mX3_firstFall 77 78 (.iconst 0) 1 := ⟨by decide +kernel, rfl⟩
theorem eX3_firstFall_78 : eb_at mX3_firstFall 78 80 (.istore 4) 2 := ⟨by decide +kernel, rfl⟩
theorem eX3_firstFall_80 : eb_at mX3_firstFall 80 83 (.iinc 5 1) 3 := ⟨by decide +kernel, rfl⟩
theorem eX3_firstFall_83 : eb_at mX3_firstFall 83 86 (.goto (-75)) 3 := ⟨by decide +kernel, rfl⟩
theorem eX3_firstFall_86 : eb_at mX3_firstFall 86 88 (.iload 4) 2 := ⟨by decide +kernel, rfl⟩
theorem eX3_firstFall_88 : eb_at mX3_firstFall 88 91 (.ifCond .ne 5) 3 := ⟨by decide +kernel, rfl⟩
theorem eX3_firstFall_91 : eb_at mX3_firstFall 91 92 (.iconst (-1)) 1 := ⟨by decide +kernel, rfl⟩
theorem eX3_firstFall_92 : eb_at mX3_firstFall 92 93 (.ireturn) 1 := ⟨by decide +kernel, rfl⟩
theorem eX3_firstFall_93 : eb_at mX3_firstFall 93 94 (.iload_n 2) 1 := ⟨by decide +kernel, rfl⟩
theorem eX3_firstFall_94 : eb_at mX3_firstFall 94 95 (.iconst 1) 1 := ⟨by decide +kernel, rfl⟩
theorem eX3_firstFall_95 : eb_at mX3_firstFall 95 96 (.iadd) 1 := ⟨by decide +kernel, rfl⟩
theorem eX3_firstFall_96 : eb_at mX3_firstFall 96 98 (.istore 5) 2 := ⟨by decide +kernel, rfl⟩
theorem eX3_firstFall_98 : eb_at mX3_firstFall 98 100 (.iload 5) 2 := ⟨by decide +kernel, rfl⟩
theorem eX3_firstFall_100 : eb_at mX3_firstFall 100 101 (.aload_n 0) 1 := ⟨by decide +kernel, rfl⟩
theorem eX3_firstFall_101 : eb_gf mX3_firstFall 101 104 3 6 := ⟨27, (RX3, TX3, 13), by decide +kernel, rfl, rfl, by decide, wd_205⟩
theorem eX3_firstFall_104 : eb_at mX3_firstFall 104 107 (.if_icmp .ge 60) 3 := ⟨by decide +kernel, rfl⟩
theorem eX3_firstFall_107 : eb_at mX3_firstFall 107 109 (.iload 5) 2 := ⟨by decide +kernel, rfl⟩
theorem eX3_firstFall_109 : eb_at mX3_firstFall 109 110 (.iconst 1) 1 := ⟨by decide +kernel, rfl⟩
theorem eX3_firstFall_110 : eb_at mX3_firstFall 110 111 (.iadd) 1 := ⟨by decide +kernel, rfl⟩
theorem eX3_firstFall_111 : eb_at mX3_firstFall 111 113 (.istore 6) 2 := ⟨by decide +kernel, rfl⟩
theorem eX3_firstFall_113 : eb_at mX3_firstFall 113 115 (.iload 6) 2 := ⟨by decide +kernel, rfl⟩
theorem eX3_firstFall_115 : eb_at mX3_firstFall 115 116 (.aload_n 0) 1 := ⟨by decide +kernel, rfl⟩
theorem eX3_firstFall_116 : eb_gf mX3_firstFall 116 119 3 6 := ⟨27, (RX3, TX3, 13), by decide +kernel, rfl, rfl, by decide, wd_205⟩
theorem eX3_firstFall_119 : eb_at mX3_firstFall 119 122 (.if_icmp .gt 39) 3 := ⟨by decide +kernel, rfl⟩
theorem eX3_firstFall_122 : eb_at mX3_firstFall 122 123 (.aload_n 0) 1 := ⟨by decide +kernel, rfl⟩
theorem eX3_firstFall_123 : eb_gf mX3_firstFall 123 126 3 5 := ⟨24, (RX3, TX3, 13), by decide +kernel, rfl, rfl, by decide, wd_204⟩
theorem eX3_firstFall_126 : eb_at mX3_firstFall 126 128 (.iload 6) 2 := ⟨by decide +kernel, rfl⟩
theorem eX3_firstFall_128 : eb_at mX3_firstFall 128 129 (.iaload) 1 := ⟨by decide +kernel, rfl⟩
theorem eX3_firstFall_129 : eb_at mX3_firstFall 129 130 (.aload_n 0) 1 := ⟨by decide +kernel, rfl⟩
theorem eX3_firstFall_130 : eb_gf mX3_firstFall 130 133 3 5 := ⟨24, (RX3, TX3, 13), by decide +kernel, rfl, rfl, by decide, wd_204⟩
theorem eX3_firstFall_133 : eb_at mX3_firstFall 133 135 (.iload 5) 2 := ⟨by decide +kernel, rfl⟩
theorem eX3_firstFall_135 : eb_at mX3_firstFall 135 136 (.iaload) 1 := ⟨by decide +kernel, rfl⟩
theorem eX3_firstFall_136 : eb_at mX3_firstFall 136 139 (.if_icmp .ge 16) 3 := ⟨by decide +kernel, rfl⟩
theorem eX3_firstFall_139 : eb_at mX3_firstFall 139 141 (.iload 5) 2 := ⟨by decide +kernel, rfl⟩
theorem eX3_firstFall_141 : eb_at mX3_firstFall 141 142 (.iconst 1) 1 := ⟨by decide +kernel, rfl⟩
theorem eX3_firstFall_142 : eb_at mX3_firstFall 142 143 (.iadd) 1 := ⟨by decide +kernel, rfl⟩
theorem eX3_firstFall_143 : eb_at mX3_firstFall 143 145 (.bipush 41) 2 := ⟨by decide +kernel, rfl⟩
theorem eX3_firstFall_145 : eb_at mX3_firstFall 145 146 (.imul) 1 := ⟨by decide +kernel, rfl⟩
theorem eX3_firstFall_146 : eb_at mX3_firstFall 146 148 (.iload 6) 2 := ⟨by decide +kernel, rfl⟩
theorem eX3_firstFall_148 : eb_at mX3_firstFall 148 149 (.iadd) 1 := ⟨by decide +kernel, rfl⟩
theorem eX3_firstFall_149 : eb_at mX3_firstFall 149 150 (.iconst 1) 1 := ⟨by decide +kernel, rfl⟩
theorem eX3_firstFall_150 : eb_at mX3_firstFall 150 151 (.iadd) 1 := ⟨by decide +kernel, rfl⟩
theorem eX3_firstFall_151 : eb_at mX3_firstFall 151 152 (.ireturn) 1 := ⟨by decide +kernel, rfl⟩
theorem eX3_firstFall_152 : eb_at mX3_firstFall 152 155 (.iinc 6 1) 3 := ⟨by decide +kernel, rfl⟩
theorem eX3_firstFall_155 : eb_at mX3_firstFall 155 158 (.goto (-42)) 3 := ⟨by decide +kernel, rfl⟩
theorem eX3_firstFall_158 : eb_at mX3_firstFall 158 161 (.iinc 5 1) 3 := ⟨by decide +kernel, rfl⟩
theorem eX3_firstFall_161 : eb_at mX3_firstFall 161 164 (.goto (-63)) 3 := ⟨by decide +kernel, rfl⟩
theorem eX3_firstFall_164 : eb_at mX3_firstFall 164 165 (.iconst (-1)) 1 := ⟨by decide +kernel, rfl⟩
theorem eX3_firstFall_165 : eb_at mX3_firstFall 165 166 (.ireturn) 1 := ⟨by decide +kernel, rfl⟩
theorem eX3_hasGapAt_0 : eb_at mX3_hasGapAt 0 1 (.aload_n 0) 1 := ⟨by decide +kernel, rfl⟩
theorem eX3_hasGapAt_1 : eb_at mX3_hasGapAt 1 2 (.iload_n 1) 1 := ⟨by decide +kernel, rfl⟩
theorem eX3_hasGapAt_2 : eb_cv mX3_hasGapAt 2 5 mX3_beginOf 1 := ⟨114, (RX3, TX3, 13), by decide +kernel, rfl, wd_448, wd_449, wd_450, by decide, rfl, rfl, okX3_beginOf⟩
theorem eX3_hasGapAt_5 : eb_at mX3_hasGapAt 5 6 (.istore_n 3) 1 := ⟨by decide +kernel, rfl⟩
theorem eX3_hasGapAt_6 : eb_at mX3_hasGapAt 6 7 (.iload_n 3) 1 := ⟨by decide +kernel, rfl⟩
theorem eX3_hasGapAt_7 : eb_at mX3_hasGapAt 7 8 (.iconst 1) 1 := ⟨by decide +kernel, rfl⟩
theorem eX3_hasGapAt_8 : eb_at mX3_hasGapAt 8 9 (.iadd) 1 := ⟨by decide +kernel, rfl⟩
theorem eX3_hasGapAt_9 : eb_at mX3_hasGapAt 9 11 (.istore 4) 2 := ⟨by decide +kernel, rfl⟩
theorem eX3_hasGapAt_11 : eb_at mX3_hasGapAt 11 13 (.iload 4) 2 := ⟨by decide +kernel, rfl⟩
theorem eX3_hasGapAt_13 : eb_at mX3_hasGapAt 13 14 (.aload_n 0) 1 := ⟨by decide +kernel, rfl⟩
theorem eX3_hasGapAt_14 : eb_at mX3_hasGapAt 14 15 (.iload_n 1) 1 := ⟨by decide +kernel, rfl⟩
theorem eX3_hasGapAt_15 : eb_cv mX3_hasGapAt 15 18 mX3_endOf 1 := ⟨117, (RX3, TX3, 13), by decide +kernel, rfl, wd_452, wd_453, wd_454, by decide, rfl, rfl, okX3_endOf⟩
theorem eX3_hasGapAt_18 : eb_at mX3_hasGapAt 18 21 (.if_icmp .ge 22) 3 := ⟨by decide +kernel, rfl⟩
theorem eX3_hasGapAt_21 : eb_at mX3_hasGapAt 21 22 (.aload_n 0) 1 := ⟨by decide +kernel, rfl⟩
theorem eX3_hasGapAt_22 : eb_at mX3_hasGapAt 22 23 (.iload_n 3) 1 := ⟨by decide +kernel, rfl⟩
theorem eX3_hasGapAt_23 : eb_at mX3_hasGapAt 23 25 (.iload 4) 2 := ⟨by decide +kernel, rfl⟩
theorem eX3_hasGapAt_25 : eb_cv mX3_hasGapAt 25 28 mX3_widthOf 2 := ⟨73, (RX3, TX3, 13), by decide +kernel, rfl, wd_320, wd_321, wd_322, by decide, rfl, rfl, okX3_widthOf⟩
theorem eX3_hasGapAt_28 : eb_at mX3_hasGapAt 28 29 (.iload_n 2) 1 := ⟨by decide +kernel, rfl⟩
theorem eX3_hasGapAt_29 : eb_at mX3_hasGapAt 29 32 (.if_icmp .ne 5) 3 := ⟨by decide +kernel, rfl⟩
theorem eX3_hasGapAt_32 : eb_at mX3_hasGapAt 32 33 (.iconst 1) 1 := ⟨by decide +kernel, rfl⟩
theorem eX3_hasGapAt_33 : eb_at mX3_hasGapAt 33 34 (.ireturn) 1 := ⟨by decide +kernel, rfl⟩
theorem eX3_hasGapAt_34 : eb_at mX3_hasGapAt 34 37 (.iinc 4 1) 3 := ⟨by decide +kernel, rfl⟩
theorem eX3_hasGapAt_37 : eb_at mX3_hasGapAt 37 40 (.goto (-26)) 3 := ⟨by decide +kernel, rfl⟩
theorem eX3_hasGapAt_40 : eb_at mX3_hasGapAt 40 41 (.iconst 0) 1 := ⟨by decide +kernel, rfl⟩
theorem eX3_hasGapAt_41 : eb_at mX3_hasGapAt 41 42 (.ireturn) 1 := ⟨by decide +kernel, rfl⟩
theorem eX3_init_0 : eb_at mX3_init 0 1 (.aload_n 0) 1 := ⟨by decide +kernel, rfl⟩
theorem eX3_init_1 : eb_at mX3_init 1 4 (.invokespecial 3) 3 := ⟨by decide +kernel, rfl⟩
theorem eX3_init_4 : eb_at mX3_init 4 5 (.aload_n 0) 1 := ⟨by decide +kernel, rfl⟩
theorem eX3_init_5 : eb_at mX3_init 5 7 (.bipush 41) 2 := ⟨by decide +kernel, rfl⟩
theorem eX3_init_7 : eb_at mX3_init 7 9 (.newarray .int) 2 := ⟨by decide +kernel, rfl⟩
theorem eX3_init_9 : eb_pf mX3_init 9 12 3 1 true (.array .int) := ⟨9, (RX3, TX3, 13), by decide +kernel, rfl, rfl, by decide, wd_198, rfl, by decide +kernel, fun _ => ⟨rfl, rfl⟩⟩
theorem eX3_init_12 : eb_at mX3_init 12 13 (.aload_n 0) 1 := ⟨by decide +kernel, rfl⟩
theorem eX3_init_13 : eb_at mX3_init 13 15 (.bipush 41) 2 := ⟨by decide +kernel, rfl⟩
theorem eX3_init_15 : eb_at mX3_init 15 17 (.newarray .int) 2 := ⟨by decide +kernel, rfl⟩
theorem eX3_init_17 : eb_pf mX3_init 17 20 3 2 true (.array .int) := ⟨15, (RX3, TX3, 13), by decide +kernel, rfl, rfl, by decide, wd_199, rfl, by decide +kernel, fun _ => ⟨rfl, rfl⟩⟩
theorem eX3_init_20 : eb_at mX3_init 20 21 (.aload_n 0) 1 := ⟨by decide +kernel, rfl⟩
theorem eX3_init_21 : eb_at mX3_init 21 23 (.bipush 41) 2 := ⟨by decide +kernel, rfl⟩
theorem eX3_init_23 : eb_at mX3_init 23 25 (.newarray .int) 2 := ⟨by decide +kernel, rfl⟩
theorem eX3_init_25 : eb_pf mX3_init 25 28 3 3 true (.array .int) := ⟨18, (RX3, TX3, 13), by decide +kernel, rfl, rfl, by decide, wd_201, rfl, by decide +kernel, fun _ => ⟨rfl, rfl⟩⟩
theorem eX3_init_28 : eb_at mX3_init 28 29 (.aload_n 0) 1 := ⟨by decide +kernel, rfl⟩
theorem eX3_init_29 : eb_at mX3_init 29 31 (.bipush 41) 2 := ⟨by decide +kernel, rfl⟩
theorem eX3_init_31 : eb_at mX3_init 31 33 (.newarray .int) 2 := ⟨by decide +kernel, rfl⟩
theorem eX3_init_33 : eb_pf mX3_init 33 36 3 4 true (.array .int) := ⟨21, (RX3, TX3, 13), by decide +kernel, rfl, rfl, by decide, wd_203, rfl, by decide +kernel, fun _ => ⟨rfl, rfl⟩⟩
theorem eX3_init_36 : eb_at mX3_init 36 37 (.aload_n 0) 1 := ⟨by decide +kernel, rfl⟩
theorem eX3_init_37 : eb_at mX3_init 37 39 (.bipush 41) 2 := ⟨by decide +kernel, rfl⟩
theorem eX3_init_39 : eb_at mX3_init 39 41 (.newarray .int) 2 := ⟨by decide +kernel, rfl⟩
theorem eX3_init_41 : eb_pf mX3_init 41 44 3 5 true (.array .int) := ⟨24, (RX3, TX3, 13), by decide +kernel, rfl, rfl, by decide, wd_204, rfl, by decide +kernel, fun _ => ⟨rfl, rfl⟩⟩
theorem eX3_init_44 : eb_at mX3_init 44 45 (.aload_n 0) 1 := ⟨by decide +kernel, rfl⟩
theorem eX3_init_45 : eb_at mX3_init 45 46 (.iconst 0) 1 := ⟨by decide +kernel, rfl⟩
theorem eX3_init_46 : eb_pf mX3_init 46 49 3 6 false .int := ⟨27, (RX3, TX3, 13), by decide +kernel, rfl, rfl, by decide, wd_205, rfl, by decide +kernel, fun h => absurd h (by decide)⟩
theorem eX3_init_49 : eb_at mX3_init 49 50 (.aload_n 0) 1 := ⟨by decide +kernel, rfl⟩
theorem eX3_init_50 : eb_at mX3_init 50 51 (.iconst 1) 1 := ⟨by decide +kernel, rfl⟩
theorem eX3_init_51 : eb_pf mX3_init 51 54 3 7 false .int := ⟨31, (RX3, TX3, 13), by decide +kernel, rfl, rfl, by decide, wd_206, rfl, by decide +kernel, fun h => absurd h (by decide)⟩
theorem eX3_init_54 : eb_at mX3_init 54 55 (.aload_n 0) 1 := ⟨by decide +kernel, rfl⟩
theorem eX3_init_55 : eb_at mX3_init 55 56 (.iconst 0) 1 := ⟨by decide +kernel, rfl⟩
theorem eX3_init_56 : eb_pf mX3_init 56 59 3 8 false .int := ⟨34, (RX3, TX3, 13), by decide +kernel, rfl, rfl, by decide, wd_208, rfl, by decide +kernel, fun h => absurd h (by decide)⟩
theorem eX3_init_59 : eb_at mX3_init 59 60 (.aload_n 0) 1 := ⟨by decide +kernel, rfl⟩
theorem eX3_init_60 : eb_at mX3_init 60 61 (.iconst 0) 1 := ⟨by decide +kernel, rfl⟩
theorem eX3_init_61 : eb_pf mX3_init 61 64 3 9 false .int := ⟨37, (RX3, TX3, 13), by decide +kernel, rfl, rfl, by decide, wd_209, rfl, by decide +kernel, fun h => absurd h (by decide)⟩
theorem eX3_init_64 : eb_at mX3_init 64 65 (.aload_n 0) 1 := ⟨by decide +kernel, rfl⟩
theorem eX3_init_65 : eb_at mX3_init 65 66 (.iconst 0) 1 := ⟨by decide +kernel, rfl⟩
theorem eX3_init_66 : eb_pf mX3_init 66 69 3 10 false .boolean := ⟨40, (RX3, TX3, 13), by decide +kernel, rfl, rfl, by decide, wd_210, rfl, by decide +kernel, fun h => absurd h (by decide)⟩
theorem eX3_init_69 : eb_at mX3_init 69 70 (.aload_n 0) 1 := ⟨by decide +kernel, rfl⟩
theorem eX3_init_70 : eb_at mX3_init 70 71 (.iconst 0) 1 := ⟨by decide +kernel, rfl⟩
theorem eX3_init_71 : eb_pf mX3_init 71 74 3 11 false .int := ⟨44, (RX3, TX3, 13), by decide +kernel, rfl, rfl, by decide, wd_211, rfl, by decide +kernel, fun h => absurd h (by decide)⟩
theorem eX3_init_74 : eb_at mX3_init 74 75 (.aload_n 0) 1 := ⟨by decide +kernel, rfl⟩
theorem eX3_init_75 : eb_at mX3_init 75 76 (.lconst 0) 1 := ⟨by decide +kernel, rfl⟩
theorem eX3_init_76 : eb_pf mX3_init 76 79 3 12 false .long := ⟨47, (RX3, TX3, 13), by decide +kernel, rfl, rfl, by decide, wd_213, rfl, by decide +kernel, fun h => absurd h (by decide)⟩
theorem eX3_init_79 : eb_at mX3_init 79 80 (.aload_n 0) 1 := ⟨by decide +kernel, rfl⟩
theorem eX3_init_80 : eb_at mX3_init 80 81 (.aload_n 1) 1 := ⟨by decide +kernel, rfl⟩
theorem eX3_init_81 : eb_pf mX3_init 81 84 3 0 true (.array .int) := ⟨51, (RX3, TX3, 13), by decide +kernel, rfl, rfl, by decide, wd_197, rfl, by decide +kernel, fun _ => ⟨rfl, rfl⟩⟩
theorem eX3_init_84 : eb_at mX3_init 84 85 (.return_) 1 := ⟨by decide +kernel, rfl⟩
theorem eX3_isBegin_0 : eb_at mX3_isBegin 0 1 (.aload_n 0) 1 := ⟨by decide +kernel, rfl⟩
theorem eX3_isBegin_1 : eb_gf mX3_isBegin 1 4 3 12 := ⟨47, (RX3, TX3, 13), by decide +kernel, rfl, rfl, by decide, wd_213⟩
theorem eX3_isBegin_4 : eb_at mX3_isBegin 4 5 (.iload_n 1) 1 := ⟨by decide +kernel, rfl⟩
theorem eX3_isBegin_5 : eb_at mX3_isBegin 5 6 (.lshr) 1 := ⟨by decide +kernel, rfl⟩
theorem eX3_isBegin_6 : eb_at mX3_isBegin 6 7 (.lconst 1) 1 := ⟨by decide +kernel, rfl⟩
theorem eX3_isBegin_7 : eb_at mX3_isBegin 7 8 (.land) 1 := ⟨by decide +kernel, rfl⟩
theorem eX3_isBegin_8 : eb_at mX3_isBegin 8 9 (.lconst 1) 1 := ⟨by decide +kernel, rfl⟩
theorem eX3_isBegin_9 : eb_at mX3_isBegin 9 10 (.lcmp) 1 := ⟨by decide +kernel, rfl⟩
theorem eX3_isBegin_10 : eb_at mX3_isBegin 10 13 (.ifCond .ne 7) 3 := ⟨by decide +kernel, rfl⟩
theorem eX3_isBegin_13 : eb_at mX3_isBegin 13 14 (.iconst 1) 1 := ⟨by decide +kernel, rfl⟩
theorem eX3_isBegin_14 : eb_at mX3_isBegin 14 17 (.goto 4) 3 := ⟨by decide +kernel, rfl⟩
theorem eX3_isBegin_17 : eb_at mX3_isBegin 17 18 (.iconst 0) 1 := ⟨by decide +kernel, rfl⟩
theorem eX3_isBegin_18 : eb_at mX3_isBegin 18 19 (.ireturn) 1 := ⟨by decide +kernel, rfl⟩
theorem eX3_lastTotal_0 : eb_at mX3_lastTotal 0 1 (.aload_n 0) 1 := ⟨by decide +kernel, rfl⟩
theorem eX3_lastTotal_1 : eb_gf mX3_lastTotal 1 4 3 2 := ⟨15, (RX3, TX3, 13), by decide +kernel, rfl, rfl, by decide, wd_199⟩
theorem eX3_lastTotal_4 : eb_at mX3_lastTotal 4 5 (.aload_n 0) 1 := ⟨by decide +kernel, rfl⟩
theorem eX3_lastTotal_5 : eb_gf mX3_lastTotal 5 8 3 6 := ⟨27, (RX3, TX3, 13), by decide +kernel, rfl, rfl, by decide, wd_205⟩
theorem eX3_lastTotal_8 : eb_at mX3_lastTotal 8 9 (.iaload) 1 := ⟨by decide +kernel, rfl⟩
theorem eX3_lastTotal_9 : eb_at mX3_lastTotal 9 10 (.ireturn) 1 := ⟨by decide +kernel, rfl⟩
theorem eX3_layLines_0 : eb_at mX3_layLines 0 1 (.aload_n 0) 1 := ⟨by decide +kernel, rfl⟩
theorem eX3_layLines_1 : eb_at mX3_layLines 1 2 (.lconst 0) 1 := ⟨by decide +kernel, rfl⟩
theorem eX3_layLines_2 : eb_pf mX3_layLines 2 5 3 12 false .long := ⟨47, (RX3, TX3, 13), by decide +kernel, rfl, rfl, by decide, wd_213, rfl, by decide +kernel, fun h => absurd h (by decide)⟩
theorem eX3_layLines_5 : eb_at mX3_layLines 5 6 (.aload_n 0) 1 := ⟨by decide +kernel, rfl⟩
theorem eX3_layLines_6 : eb_gf mX3_layLines 6 9 3 6 := ⟨27, (RX3, TX3, 13), by decide +kernel, rfl, rfl, by decide, wd_205⟩
theorem eX3_layLines_9 : eb_at mX3_layLines 9 10 (.istore_n 1) 1 := ⟨by decide +kernel, rfl⟩
theorem eX3_layLines_10 : eb_at mX3_layLines 10 11 (.iconst 0) 1 := ⟨by decide +kernel, rfl⟩
theorem eX3_layLines_11 : eb_at mX3_layLines 11 12 (.istore_n 2) 1 := ⟨by decide +kernel, rfl⟩
theorem eX3_layLines_12 : eb_at mX3_layLines 12 13 (.iload_n 2) 1 := ⟨by decide +kernel, rfl⟩
theorem eX3_layLines_13 : eb_at mX3_layLines 13 14 (.aload_n 0) 1 := ⟨by decide +kernel, rfl⟩
theorem eX3_layLines_14 : eb_gf mX3_layLines 14 17 3 6 := ⟨27, (RX3, TX3, 13), by decide +kernel, rfl, rfl, by decide, wd_205⟩
theorem eX3_layLines_17 : eb_at mX3_layLines 17 20 (.if_icmp .ge 32) 3 := ⟨by decide +kernel, rfl⟩
theorem eX3_layLines_20 : eb_at mX3_layLines 20 21 (.iload_n 1) 1 := ⟨by decide +kernel, rfl⟩
theorem eX3_layLines_21 : eb_at mX3_layLines 21 24 (.ifCond .le 28) 3 := ⟨by decide +kernel, rfl⟩
theorem eX3_layLines_24 : eb_at mX3_layLines 24 25 (.aload_n 0) 1 := ⟨by decide +kernel, rfl⟩
theorem eX3_layLines_25 : eb_gf mX3_layLines 25 28 3 3 := ⟨18, (RX3, TX3, 13), by decide +kernel, rfl, rfl, by decide, wd_201⟩
theorem eX3_layLines_28 : eb_at mX3_layLines 28 29 (.iload_n 1) 1 := ⟨by decide +kernel, rfl⟩
theorem eX3_layLines_29 : eb_at mX3_layLines 29 30 (.iaload) 1 := ⟨by decide +kernel, rfl⟩
theorem eX3_layLines_30 : eb_at mX3_layLines 30 31 (.istore_n 1) 1 := ⟨by decide +kernel, rfl⟩
theorem eX3_layLines_31 : eb_at mX3_layLines 31 32 (.aload_n 0) 1 := ⟨by decide +kernel, rfl⟩
theorem eX3_layLines_32 : eb_at mX3_layLines 32 33 (.dup) 1 := ⟨by decide +kernel, rfl⟩
theorem eX3_layLines_33 : eb_gf mX3_layLines 33 36 3 12 := ⟨47, (RX3, TX3, 13), by decide +kernel, rfl, rfl, by decide, wd_213⟩
theorem eX3_layLines_36 : eb_at mX3_layLines 36 37 (.lconst 1) 1 := ⟨by decide +kernel, rfl⟩
theorem eX3_layLines_37 : eb_at mX3_layLines 37 38 (.iload_n 1) 1 := ⟨by decide +kernel, rfl⟩
theorem eX3_layLines_38 : eb_at mX3_layLines 38 39 (.lshl) 1 := ⟨by decide +kernel, rfl⟩
theorem eX3_layLines_39 : eb_at mX3_layLines 39 40 (.lor) 1 := ⟨by decide +kernel, rfl⟩
theorem eX3_layLines_40 : eb_pf mX3_layLines 40 43 3 12 false .long := ⟨47, (RX3, TX3, 13), by decide +kernel, rfl, rfl, by decide, wd_213, rfl, by decide +kernel, fun h => absurd h (by decide)⟩
theorem eX3_layLines_43 : eb_at mX3_layLines 43 46 (.iinc 2 1) 3 := ⟨by decide +kernel, rfl⟩
theorem eX3_layLines_46 : eb_at mX3_layLines 46 49 (.goto (-34)) 3 := ⟨by decide +kernel, rfl⟩
theorem eX3_layLines_49 : eb_at mX3_layLines 49 50 (.aload_n 0) 1 := ⟨by decide +kernel, rfl⟩
theorem eX3_layLines_50 : eb_at mX3_layLines 50 51 (.iconst 0) 1 := ⟨by decide +kernel, rfl⟩
theorem eX3_layLines_51 : eb_pf mX3_layLines 51 54 3 11 false .int := ⟨44, (RX3, TX3, 13), by decide +kernel, rfl, rfl, by decide, wd_211, rfl, by decide +kernel, fun h => absurd h (by decide)⟩
theorem eX3_layLines_54 : eb_at mX3_layLines 54 55 (.iconst 0) 1 := ⟨by decide +kernel, rfl⟩
theorem eX3_layLines_55 : eb_at mX3_layLines 55 56 (.istore_n 2) 1 := ⟨by decide +kernel, rfl⟩
theorem eX3_layLines_56 : eb_at mX3_layLines 56 57 (.iload_n 2) 1 := ⟨by decide +kernel, rfl⟩
theorem eX3_layLines_57 : eb_at mX3_layLines 57 58 (.aload_n 0) 1 := ⟨by decide +kernel, rfl⟩
theorem eX3_layLines_58 : eb_gf mX3_layLines 58 61 3 6 := ⟨27, (RX3, TX3, 13), by decide +kernel, rfl, rfl, by decide, wd_205⟩
theorem eX3_layLines_61 : eb_at mX3_layLines 61 64 (.if_icmp .ge 37) 3 := ⟨by decide +kernel, rfl⟩
theorem eX3_layLines_64 : eb_at mX3_layLines 64 65 (.aload_n 0) 1 := ⟨by decide +kernel, rfl⟩
theorem eX3_layLines_65 : eb_at mX3_layLines 65 66 (.iload_n 2) 1 := ⟨by decide +kernel, rfl⟩
theorem eX3_layLines_66 : eb_cv mX3_layLines 66 69 mX3_isBegin 1 := ⟨96, (RX3, TX3, 13), by decide +kernel, rfl, wd_340, wd_342, wd_6, by decide, rfl, rfl, okX3_isBegin⟩
theorem eX3_layLines_69 : eb_at mX3_layLines 69 72 (.ifCond .eq 23) 3 := ⟨by decide +kernel, rfl⟩
theorem eX3_layLines_72 : eb_at mX3_layLines 72 73 (.aload_n 0) 1 := ⟨by decide +kernel, rfl⟩
theorem eX3_layLines_73 : eb_gf mX3_layLines 73 76 3 4 := ⟨21, (RX3, TX3, 13), by decide +kernel, rfl, rfl, by decide, wd_203⟩
theorem eX3_layLines_76 : eb_at mX3_layLines 76 77 (.aload_n 0) 1 := ⟨by decide +kernel, rfl⟩
theorem eX3_layLines_77 : eb_gf mX3_layLines 77 80 3 11 := ⟨44, (RX3, TX3, 13), by decide +kernel, rfl, rfl, by decide, wd_211⟩
theorem eX3_layLines_80 : eb_at mX3_layLines 80 81 (.iload_n 2) 1 := ⟨by decide +kernel, rfl⟩
theorem eX3_layLines_81 : eb_at mX3_layLines 81 82 (.iastore) 1 := ⟨by decide +kernel, rfl⟩
theorem eX3_layLines_82 : eb_at mX3_layLines 82 83 (.aload_n 0) 1 := ⟨by decide +kernel, rfl⟩
theorem eX3_layLines_83 : eb_at mX3_layLines 83 84 (.dup) 1 := ⟨by decide +kernel, rfl⟩
theorem eX3_layLines_84 : eb_gf mX3_layLines 84 87 3 11 := ⟨44, (RX3, TX3, 13), by decide +kernel, rfl, rfl, by decide, wd_211⟩
theorem eX3_layLines_87 : eb_at mX3_layLines 87 88 (.iconst 1) 1 := ⟨by decide +kernel, rfl⟩
theorem eX3_layLines_88 : eb_at mX3_layLines 88 89 (.iadd) 1 := ⟨by decide +kernel, rfl⟩
theorem eX3_layLines_89 : eb_pf mX3_layLines 89 92 3 11 false .int := ⟨44, (RX3, TX3, 13), by decide +kernel, rfl, rfl, by decide, wd_211, rfl, by decide +kernel, fun h => absurd h (by decide)⟩
theorem eX3_layLines_92 : eb_at mX3_layLines 92 95 (.iinc 2 1) 3 := ⟨by decide +kernel, rfl⟩
theorem eX3_layLines_95 : eb_at mX3_layLines 95 98 (.goto (-39)) 3 := ⟨by decide +kernel, rfl⟩
theorem eX3_layLines_98 : eb_at mX3_layLines 98 99 (.return_) 1 := ⟨by decide +kernel, rfl⟩
theorem eX3_leastWithLines_0 : eb_at mX3_leastWithLines 0 1 (.iload_n 1) 1 := ⟨by decide +kernel, rfl⟩
theorem eX3_leastWithLines_1 : eb_at mX3_leastWithLines 1 2 (.aload_n 0) 1 := ⟨by decide +kernel, rfl⟩
theorem eX3_leastWithLines_2 : eb_gf mX3_leastWithLines 2 5 3 6 := ⟨27, (RX3, TX3, 13), by decide +kernel, rfl, rfl, by decide, wd_205⟩
theorem eX3_leastWithLines_5 : eb_at mX3_leastWithLines 5 8 (.if_icmp .le 5) 3 := ⟨by decide +kernel, rfl⟩
theorem eX3_leastWithLines_8 : eb_at mX3_leastWithLines 8 9 (.iconst (-1)) 1 := ⟨by decide +kernel, rfl⟩
theorem eX3_leastWithLines_9 : eb_at mX3_leastWithLines 9 10 (.ireturn) 1 := ⟨by decide +kernel, rfl⟩
theorem eX3_leastWithLines_10 : eb_at mX3_leastWithLines 10 11 (.aload_n 0) 1 := ⟨by decide +kernel, rfl⟩
theorem eX3_leastWithLines_11 : eb_gf mX3_leastWithLines 11 14 3 5 := ⟨24, (RX3, TX3, 13), by decide +kernel, rfl, rfl, by decide, wd_204⟩
theorem eX3_leastWithLines_14 : eb_at mX3_leastWithLines 14 15 (.iconst 0) 1 := ⟨by decide +kernel, rfl⟩
theorem eX3_leastWithLines_15 : eb_at mX3_leastWithLines 15 16 (.iconst 0) 1 := ⟨by decide +kernel, rfl⟩
theorem eX3_leastWithLines_16 : eb_at mX3_leastWithLines 16 17 (.iastore) 1 := ⟨by decide +kernel, rfl⟩
theorem eX3_leastWithLines_17 : eb_at mX3_leastWithLines 17 18 (.iconst 1) 1 := ⟨by decide +kernel, rfl⟩
theorem eX3_leastWithLines_18 : eb_at mX3_leastWithLines 18 19 (.istore_n 2) 1 := ⟨by decide +kernel, rfl⟩
theorem eX3_leastWithLines_19 : eb_at mX3_leastWithLines 19 20 (.iload_n 2) 1 := ⟨by decide +kernel, rfl⟩
theorem eX3_leastWithLines_20 : eb_at mX3_leastWithLines 20 21 (.iload_n 1) 1 := ⟨by decide +kernel, rfl⟩
theorem eX3_leastWithLines_21 : eb_at mX3_leastWithLines 21 24 (.if_icmp .gt 39) 3 := ⟨by decide +kernel, rfl⟩
theorem eX3_leastWithLines_24 : eb_at mX3_leastWithLines 24 25 (.aload_n 0) 1 := ⟨by decide +kernel, rfl⟩
theorem eX3_leastWithLines_25 : eb_gf mX3_leastWithLines 25 28 3 6 := ⟨27, (RX3, TX3, 13), by decide +kernel, rfl, rfl, by decide, wd_205⟩
theorem eX3_leastWithLines_28 : eb_at mX3_leastWithLines 28 29 (.istore_n 3) 1 := ⟨by decide +kernel, rfl⟩
theorem eX3_leastWithLines_29 : eb_at mX3_leastWithLines 29 30 (.iload_n 3) 1 := ⟨by decide +kernel, rfl⟩
theorem eX3_leastWithLines_30 : eb_at mX3_leastWithLines 30 31 (.iload_n 2) 1 := ⟨by decide +kernel, rfl⟩
theorem eX3_leastWithLines_31 : eb_at mX3_leastWithLines 31 34 (.if_icmp .lt 23) 3 := ⟨by decide +kernel, rfl⟩
theorem eX3_leastWithLines_34 : eb_at mX3_leastWithLines 34 35 (.aload_n 0) 1 := ⟨by decide +kernel, rfl⟩
theorem eX3_leastWithLines_35 : eb_gf mX3_leastWithLines 35 38 3 5 := ⟨24, (RX3, TX3, 13), by decide +kernel, rfl, rfl, by decide, wd_204⟩
theorem eX3_leastWithLines_38 : eb_at mX3_leastWithLines 38 39 (.iload_n 3) 1 := ⟨by decide +kernel, rfl⟩
theorem eX3_leastWithLines_39 : eb_at mX3_leastWithLines 39 40 (.aload_n 0) 1 := ⟨by decide +kernel, rfl⟩
theorem eX3_leastWithLines_40 : eb_at mX3_leastWithLines 40 41 (.iload_n 3) 1 := ⟨by decide +kernel, rfl⟩
theorem eX3_leastWithLines_41 : eb_at mX3_leastWithLines 41 42 (.iload_n 2) 1 := ⟨by decide +kernel, rfl⟩
theorem eX3_leastWithLines_42 : eb_at mX3_leastWithLines 42 43 (.iconst 1) 1 := ⟨by decide +kernel, rfl⟩
theorem eX3_leastWithLines_43 : eb_at mX3_leastWithLines 43 44 (.isub) 1 := ⟨by decide +kernel, rfl⟩
theorem eX3_leastWithLines_44 : eb_cv mX3_leastWithLines 44 47 mX3_leastWithOneMore 2 := ⟨106, (RX3, TX3, 13), by decide +kernel, rfl, wd_646, wd_648, wd_17, by decide, rfl, rfl, okX3_leastWithOneMore⟩
theorem eX3_leastWithLines_47 : eb_at mX3_leastWithLines 47 48 (.iastore) 1 := ⟨by decide +kernel, rfl⟩
theorem eX3_leastWithLines_48 : eb_at mX3_leastWithLines 48 51 (.iinc 3 (-1)) 3 := ⟨by decide +kernel, rfl⟩
theorem eX3_leastWithLines_51 : eb_at mX3_leastWithLines 51 54 (.goto (-22)) 3 := ⟨by decide +kernel, rfl⟩
theorem eX3_leastWithLines_54 : eb_at mX3_leastWithLines 54 57 (.iinc 2 1) 3 := ⟨by decide +kernel, rfl⟩
theorem eX3_leastWithLines_57 : eb_at mX3_leastWithLines 57 60 (.goto (-38)) 3 := ⟨by decide +kernel, rfl⟩
theorem eX3_leastWithLines_60 : eb_at mX3_leastWithLines 60 61 (.aload_n 0) 1 := ⟨by decide +kernel, rfl⟩
theorem eX3_leastWithLines_61 : eb_gf mX3_leastWithLines 61 64 3 5 := ⟨24, (RX3, TX3, 13), by decide +kernel, rfl, rfl, by decide, wd_204⟩
theorem eX3_leastWithLines_64 : eb_at mX3_leastWithLines 64 65 (.aload_n 0) 1 := ⟨by decide +kernel, rfl⟩
theorem eX3_leastWithLines_65 : eb_gf mX3_leastWithLines 65 68 3 6 := ⟨27, (RX3, TX3, 13), by decide +kernel, rfl, rfl, by decide, wd_205⟩
theorem eX3_leastWithLines_68 : eb_at mX3_leastWithLines 68 69 (.iaload) 1 := ⟨by decide +kernel, rfl⟩
theorem eX3_leastWithLines_69 : eb_at mX3_leastWithLines 69 70 (.ireturn) 1 := ⟨by decide +kernel, rfl⟩
theorem eX3_leastWithOneMore_0 : eb_at mX3_leastWithOneMore 0 2 (.ldc 95) 2 := ⟨by decide +kernel, rfl⟩
theorem eX3_leastWithOneMore_2 : eb_at mX3_leastWithOneMore 2 3 (.istore_n 3) 1 := ⟨by decide +kernel, rfl⟩
theorem eX3_leastWithOneMore_3 : eb_at mX3_leastWithOneMore 3 4 (.iload_n 2) 1 := ⟨by decide +kernel, rfl⟩
theorem eX3_leastWithOneMore_4 : eb_at mX3_leastWithOneMore 4 7 (.ifCond .ne 7) 3 := ⟨by decide +kernel, rfl⟩
theorem eX3_leastWithOneMore_7 : eb_at mX3_leastWithOneMore 7 8 (.iconst 0) 1 := ⟨by decide +kernel, rfl⟩
theorem eX3_leastWithOneMore_8 : eb_at mX3_leastWithOneMore 8 11 (.goto 6) 3 := ⟨by decide +kernel, rfl⟩
theorem eX3_leastWithOneMore_11 : eb_at mX3_leastWithOneMore 11 12 (.iload_n 1) 1 := ⟨by decide +kernel, rfl⟩
theorem eX3_leastWithOneMore_12 : eb_at mX3_leastWithOneMore 12 13 (.iconst 1) 1 := ⟨by decide +kernel, rfl⟩
theorem eX3_leastWithOneMore_13 : eb_at mX3_leastWithOneMore 13 14 (.isub) 1 := ⟨by decide +kernel, rfl⟩
theorem eX3_leastWithOneMore_14 : eb_at mX3_leastWithOneMore 14 16 (.istore 4) 2 := ⟨by decide +kernel, rfl⟩
theorem eX3_leastWithOneMore_16 : eb_at mX3_leastWithOneMore 16 17 (.iload_n 2) 1 := ⟨by decide +kernel, rfl⟩
theorem eX3_leastWithOneMore_17 : eb_at mX3_leastWithOneMore 17 19 (.istore 5) 2 := ⟨by decide +kernel, rfl⟩
theorem eX3_leastWithOneMore_19 : eb_at mX3_leastWithOneMore 19 21 (.iload 5) 2 := ⟨by decide +kernel, rfl⟩
theorem eX3_leastWithOneMore_21 : eb_at mX3_leastWithOneMore 21 23 (.iload 4) 2 := ⟨by decide +kernel, rfl⟩
theorem eX3_leastWithOneMore_23 : eb_at mX3_leastWithOneMore 23 26 (.if_icmp .gt 29) 3 := ⟨by decide +kernel, rfl⟩
theorem eX3_leastWithOneMore_26 : eb_at mX3_leastWithOneMore 26 27 (.iload_n 3) 1 := ⟨by decide +kernel, rfl⟩
theorem eX3_leastWithOneMore_27 : eb_at mX3_leastWithOneMore 27 28 (.aload_n 0) 1 := ⟨by decide +kernel, rfl⟩
theorem eX3_leastWithOneMore_28 : eb_gf mX3_leastWithOneMore 28 31 3 5 := ⟨24, (RX3, TX3, 13), by decide +kernel, rfl, rfl, by decide, wd_204⟩
theorem eX3_leastWithOneMore_31 : eb_at mX3_leastWithOneMore 31 33 (.iload 5) 2 := ⟨by decide +kernel, rfl⟩
theorem eX3_leastWithOneMore_33 : eb_at mX3_leastWithOneMore 33 34 (.iaload) 1 := ⟨by decide +kernel, rfl⟩
theorem eX3_leastWithOneMore_34 : eb_at mX3_leastWithOneMore 34 35 (.aload_n 0) 1 := ⟨by decide +kernel, rfl⟩
theorem eX3_leastWithOneMore_35 : eb_at mX3_leastWithOneMore 35 37 (.iload 5) 2 := ⟨by decide +kernel, rfl⟩
theorem eX3_leastWithOneMore_37 : eb_at mX3_leastWithOneMore 37 38 (.iload_n 1) 1 := ⟨by decide +kernel, rfl⟩
theorem eX3_leastWithOneMore_38 : eb_cv mX3_leastWithOneMore 38 41 mX3_price 2 := ⟨100, (RX3, TX3, 13), by decide +kernel, rfl, wd_440, wd_441, wd_442, by decide, rfl, rfl, okX3_price⟩
theorem eX3_leastWithOneMore_41 : eb_at mX3_leastWithOneMore 41 42 (.iadd) 1 := ⟨by decide +kernel, rfl⟩
theorem eX3_leastWithOneMore_42 : eb_cs mX3_leastWithOneMore 42 45 mJ_min 2 := ⟨109, by decide +kernel, rfl, wd_650, wd_417, by decide, okJ_min⟩
theorem eX3_leastWithOneMore_45 : eb_at mX3_leastWithOneMore 45 46 (.istore_n 3) 1 := ⟨by decide +kernel, rfl⟩
theorem eX3_leastWithOneMore_46 : eb_at mX3_leastWithOneMore 46 49 (.iinc 5 1) 3 := ⟨by decide +kernel, rfl⟩
theorem eX3_leastWithOneMore_49 : eb_at mX3_leastWithOneMore 49 52 (.goto (-30)) 3 := ⟨by decide +kernel, rfl⟩
theorem eX3_leastWithOneMore_52 : eb_at mX3_leastWithOneMore 52 53 (.iload_n 3) 1 := ⟨by decide +kernel, rfl⟩
theorem eX3_leastWithOneMore_53 : eb_at mX3_leastWithOneMore 53 54 (.ireturn) 1 := ⟨by decide +kernel, rfl⟩
theorem eX3_lineOf_0 : eb_at mX3_lineOf 0 1 (.iconst 0) 1 := ⟨by decide +kernel, rfl⟩
theorem eX3_lineOf_1 : eb_at mX3_lineOf 1 2 (.istore_n 2) 1 := ⟨by decide +kernel, rfl⟩
theorem eX3_lineOf_2 : eb_at mX3_lineOf 2 3 (.iload_n 2) 1 := ⟨by decide +kernel, rfl⟩
theorem eX3_lineOf_3 : eb_at mX3_lineOf 3 4 (.iconst 1) 1 := ⟨by decide +kernel, rfl⟩
theorem eX3_lineOf_4 : eb_at mX3_lineOf 4 5 (.iadd) 1 := ⟨by decide +kernel, rfl⟩
theorem eX3_lineOf_5 : eb_at mX3_lineOf 5 6 (.aload_n 0) 1 := ⟨by decide +kernel, rfl⟩
theorem eX3_lineOf_6 : eb_gf mX3_lineOf 6 9 3 11 := ⟨44, (RX3, TX3, 13), by decide +kernel, rfl, rfl, by decide, wd_211⟩
theorem eX3_lineOf_9 : eb_at mX3_lineOf 9 12 (.if_icmp .ge 21) 3 := ⟨by decide +kernel, rfl⟩
theorem eX3_lineOf_12 : eb_at mX3_lineOf 12 13 (.aload_n 0) 1 := ⟨by decide +kernel, rfl⟩
theorem eX3_lineOf_13 : eb_gf mX3_lineOf 13 16 3 4 := ⟨21, (RX3, TX3, 13), by decide +kernel, rfl, rfl, by decide, wd_203⟩
theorem eX3_lineOf_16 : eb_at mX3_lineOf 16 17 (.iload_n 2) 1 := ⟨by decide +kernel, rfl⟩
theorem eX3_lineOf_17 : eb_at mX3_lineOf 17 18 (.iconst 1) 1 := ⟨by decide +kernel, rfl⟩
theorem eX3_lineOf_18 : eb_at mX3_lineOf 18 19 (.iadd) 1 := ⟨by decide +kernel, rfl⟩
theorem eX3_lineOf_19 : eb_at mX3_lineOf 19 20 (.iaload) 1 := ⟨by decide +kernel, rfl⟩
theorem eX3_lineOf_20 : eb_at mX3_lineOf 20 21 (.iload_n 1) 1 := ⟨by decide +kernel, rfl⟩
theorem eX3_lineOf_21 : eb_at mX3_lineOf 21 24 (.if_icmp .gt 9) 3 := ⟨by decide +kernel, rfl⟩
theorem eX3_lineOf_24 : eb_at mX3_lineOf 24 27 (.iinc 2 1) 3 := ⟨by decide +kernel, rfl⟩
theorem eX3_lineOf_27 : eb_at mX3_lineOf 27 30 (.goto (-25)) 3 := ⟨by decide +kernel, rfl⟩
theorem eX3_lineOf_30 : eb_at mX3_lineOf 30 31 (.iload_n 2) 1 := ⟨by decide +kernel, rfl⟩
theorem eX3_lineOf_31 : eb_at mX3_lineOf 31 32 (.ireturn) 1 := ⟨by decide +kernel, rfl⟩
theorem eX3_load_0 : eb_at mX3_load 0 1 (.aload_n 0) 1 := ⟨by decide +kernel, rfl⟩
theorem eX3_load_1 : eb_at mX3_load 1 2 (.aload_n 1) 1 := ⟨by decide +kernel, rfl⟩
theorem eX3_load_2 : eb_gf mX3_load 2 5 6 1 := ⟨54, (RX7, TX7, 6), by decide +kernel, rfl, rfl, by decide, wd_83⟩
theorem eX3_load_5 : eb_pf mX3_load 5 8 3 6 false .int := ⟨27, (RX3, TX3, 13), by decide +kernel, rfl, rfl, by decide, wd_205, rfl, by decide +kernel, fun h => absurd h (by decide)⟩
theorem eX3_load_8 : eb_at mX3_load 8 9 (.aload_n 0) 1 := ⟨by decide +kernel, rfl⟩
theorem eX3_load_9 : eb_at mX3_load 9 10 (.aload_n 1) 1 := ⟨by decide +kernel, rfl⟩
theorem eX3_load_10 : eb_gf mX3_load 10 13 6 2 := ⟨59, (RX7, TX7, 6), by decide +kernel, rfl, rfl, by decide, wd_86⟩
theorem eX3_load_13 : eb_pf mX3_load 13 16 3 7 false .int := ⟨31, (RX3, TX3, 13), by decide +kernel, rfl, rfl, by decide, wd_206, rfl, by decide +kernel, fun h => absurd h (by decide)⟩
theorem eX3_load_16 : eb_at mX3_load 16 17 (.aload_n 0) 1 := ⟨by decide +kernel, rfl⟩
theorem eX3_load_17 : eb_at mX3_load 17 18 (.aload_n 1) 1 := ⟨by decide +kernel, rfl⟩
theorem eX3_load_18 : eb_gf mX3_load 18 21 6 3 := ⟨60, (RX7, TX7, 6), by decide +kernel, rfl, rfl, by decide, wd_89⟩
theorem eX3_load_21 : eb_pf mX3_load 21 24 3 8 false .int := ⟨34, (RX3, TX3, 13), by decide +kernel, rfl, rfl, by decide, wd_208, rfl, by decide +kernel, fun h => absurd h (by decide)⟩
theorem eX3_load_24 : eb_at mX3_load 24 25 (.aload_n 0) 1 := ⟨by decide +kernel, rfl⟩
theorem eX3_load_25 : eb_at mX3_load 25 26 (.aload_n 1) 1 := ⟨by decide +kernel, rfl⟩
theorem eX3_load_26 : eb_gf mX3_load 26 29 6 4 := ⟨61, (RX7, TX7, 6), by decide +kernel, rfl, rfl, by decide, wd_92⟩
theorem eX3_load_29 : eb_pf mX3_load 29 32 3 9 false .int := ⟨37, (RX3, TX3, 13), by decide +kernel, rfl, rfl, by decide, wd_209, rfl, by decide +kernel, fun h => absurd h (by decide)⟩
theorem eX3_load_32 : eb_at mX3_load 32 33 (.aload_n 0) 1 := ⟨by decide +kernel, rfl⟩
theorem eX3_load_33 : eb_at mX3_load 33 34 (.aload_n 1) 1 := ⟨by decide +kernel, rfl⟩
theorem eX3_load_34 : eb_gf mX3_load 34 37 6 5 := ⟨62, (RX7, TX7, 6), by decide +kernel, rfl, rfl, by decide, wd_95⟩
theorem eX3_load_37 : eb_pf mX3_load 37 40 3 10 false .boolean := ⟨40, (RX3, TX3, 13), by decide +kernel, rfl, rfl, by decide, wd_210, rfl, by decide +kernel, fun h => absurd h (by decide)⟩
theorem eX3_load_40 : eb_at mX3_load 40 41 (.aload_n 0) 1 := ⟨by decide +kernel, rfl⟩
theorem eX3_load_41 : eb_gf mX3_load 41 44 3 1 := ⟨9, (RX3, TX3, 13), by decide +kernel, rfl, rfl, by decide, wd_198⟩
theorem eX3_load_44 : eb_at mX3_load 44 45 (.iconst 0) 1 := ⟨by decide +kernel, rfl⟩
theorem eX3_load_45 : eb_at mX3_load 45 46 (.iconst 0) 1 := ⟨by decide +kernel, rfl⟩
theorem eX3_load_46 : eb_at mX3_load 46 47 (.iastore) 1 := ⟨by decide +kernel, rfl⟩
theorem eX3_load_47 : eb_at mX3_load 47 48 (.iconst 0) 1 := ⟨by decide +kernel, rfl⟩
theorem eX3_load_48 : eb_at mX3_load 48 49 (.istore_n 2) 1 := ⟨by decide +kernel, rfl⟩
theorem eX3_load_49 : eb_at mX3_load 49 50 (.iload_n 2) 1 := ⟨by decide +kernel, rfl⟩
theorem eX3_load_50 : eb_at mX3_load 50 51 (.aload_n 0) 1 := ⟨by decide +kernel, rfl⟩
theorem eX3_load_51 : eb_gf mX3_load 51 54 3 6 := ⟨27, (RX3, TX3, 13), by decide +kernel, rfl, rfl, by decide, wd_205⟩
theorem eX3_load_54 : eb_at mX3_load 54 57 (.if_icmp .ge 35) 3 := ⟨by decide +kernel, rfl⟩
theorem eX3_load_57 : eb_at mX3_load 57 58 (.aload_n 0) 1 := ⟨by decide +kernel, rfl⟩
theorem eX3_load_58 : eb_gf mX3_load 58 61 3 1 := ⟨9, (RX3, TX3, 13), by decide +kernel, rfl, rfl, by decide, wd_198⟩
theorem eX3_load_61 : eb_at mX3_load 61 62 (.iload_n 2) 1 := ⟨by decide +kernel, rfl⟩
theorem eX3_load_62 : eb_at mX3_load 62 63 (.iconst 1) 1 := ⟨by decide +kernel, rfl⟩
theorem eX3_load_63 : eb_at mX3_load 63 64 (.iadd) 1 := ⟨by decide +kernel, rfl⟩
theorem eX3_load_64 : eb_at mX3_load 64 65 (.aload_n 0) 1 := ⟨by decide +kernel, rfl⟩
theorem eX3_load_65 : eb_gf mX3_load 65 68 3 1 := ⟨9, (RX3, TX3, 13), by decide +kernel, rfl, rfl, by decide, wd_198⟩
theorem eX3_load_68 : eb_at mX3_load 68 69 (.iload_n 2) 1 := ⟨by decide +kernel, rfl⟩
theorem eX3_load_69 : eb_at mX3_load 69 70 (.iaload) 1 := ⟨by decide +kernel, rfl⟩
theorem eX3_load_70 : eb_at mX3_load 70 71 (.aload_n 1) 1 := ⟨by decide +kernel, rfl⟩
theorem eX3_load_71 : eb_gf mX3_load 71 74 6 0 := ⟨63, (RX7, TX7, 6), by decide +kernel, rfl, rfl, by decide, wd_80⟩
theorem eX3_load_74 : eb_at mX3_load 74 75 (.iload_n 2) 1 := ⟨by decide +kernel, rfl⟩
theorem eX3_load_75 : eb_at mX3_load 75 76 (.laload) 1 := ⟨by decide +kernel, rfl⟩
theorem eX3_load_76 : eb_cs mX3_load 76 79 mX5_widthOf 1 := ⟨67, by decide +kernel, rfl, wd_299, wd_300, by decide, okX5_widthOf⟩
theorem eX3_load_79 : eb_at mX3_load 79 80 (.iadd) 1 := ⟨by decide +kernel, rfl⟩
theorem eX3_load_80 : eb_at mX3_load 80 81 (.iconst 1) 1 := ⟨by decide +kernel, rfl⟩
theorem eX3_load_81 : eb_at mX3_load 81 82 (.iadd) 1 := ⟨by decide +kernel, rfl⟩
theorem eX3_load_82 : eb_at mX3_load 82 83 (.iastore) 1 := ⟨by decide +kernel, rfl⟩
theorem eX3_load_83 : eb_at mX3_load 83 86 (.iinc 2 1) 3 := ⟨by decide +kernel, rfl⟩
theorem eX3_load_86 : eb_at mX3_load 86 89 (.goto (-37)) 3 := ⟨by decide +kernel, rfl⟩
theorem eX3_load_89 : eb_at mX3_load 89 90 (.return_) 1 := ⟨by decide +kernel, rfl⟩
theorem eX3_loosePrice_0 : eb_at mX3_loosePrice 0 1 (.aload_n 0) 1 := ⟨by decide +kernel, rfl⟩
theorem eX3_loosePrice_1 : eb_gf mX3_loosePrice 1 4 3 8 := ⟨34, (RX3, TX3, 13), by decide +kernel, rfl, rfl, by decide, wd_208⟩
theorem eX3_loosePrice_4 : eb_at mX3_loosePrice 4 40 (.tableswitch 62 0 4 #[36, 62, 62, 40, 44]) 36 := ⟨by decide +kernel, rfl⟩
theorem eX3_loosePrice_40 : eb_at mX3_loosePrice 40 41 (.iload_n 1) 1 := ⟨by decide +kernel, rfl⟩
theorem eX3_loosePrice_41 : eb_at mX3_loosePrice 41 42 (.iload_n 1) 1 := ⟨by decide +kernel, rfl⟩
theorem eX3_loosePrice_42 : eb_at mX3_loosePrice 42 43 (.imul) 1 := ⟨by decide +kernel, rfl⟩
theorem eX3_loosePrice_43 : eb_at mX3_loosePrice 43 44 (.ireturn) 1 := ⟨by decide +kernel, rfl⟩
theorem eX3_loosePrice_44 : eb_at mX3_loosePrice 44 45 (.iload_n 1) 1 := ⟨by decide +kernel, rfl⟩
theorem eX3_loosePrice_45 : eb_at mX3_loosePrice 45 46 (.iconst 5) 1 := ⟨by decide +kernel, rfl⟩
theorem eX3_loosePrice_46 : eb_at mX3_loosePrice 46 47 (.idiv) 1 := ⟨by decide +kernel, rfl⟩
theorem eX3_loosePrice_47 : eb_at mX3_loosePrice 47 48 (.ireturn) 1 := ⟨by decide +kernel, rfl⟩
theorem eX3_loosePrice_48 : eb_at mX3_loosePrice 48 49 (.iload_n 1) 1 := ⟨by decide +kernel, rfl⟩
theorem eX3_loosePrice_49 : eb_at mX3_loosePrice 49 52 (.sipush 200) 3 := ⟨by decide +kernel, rfl⟩
theorem eX3_loosePrice_52 : eb_at mX3_loosePrice 52 55 (.if_icmp .ge 12) 3 := ⟨by decide +kernel, rfl⟩
theorem eX3_loosePrice_55 : eb_at mX3_loosePrice 55 56 (.aload_n 0) 1 := ⟨by decide +kernel, rfl⟩
theorem eX3_loosePrice_56 : eb_gf mX3_loosePrice 56 59 3 0 := ⟨51, (RX3, TX3, 13), by decide +kernel, rfl, rfl, by decide, wd_197⟩
theorem eX3_loosePrice_59 : eb_at mX3_loosePrice 59 60 (.iload_n 1) 1 := ⟨by decide +kernel, rfl⟩
theorem eX3_loosePrice_60 : eb_at mX3_loosePrice 60 61 (.iaload) 1 := ⟨by decide +kernel, rfl⟩
theorem eX3_loosePrice_61 : eb_at mX3_loosePrice 61 64 (.goto 4) 3 := ⟨by decide +kernel, rfl⟩
theorem eX3_loosePrice_64 : eb_at mX3_loosePrice 64 65 (.iconst 0) 1 := ⟨by decide +kernel, rfl⟩
theorem eX3_loosePrice_65 : eb_at mX3_loosePrice 65 66 (.ireturn) 1 := ⟨by decide +kernel, rfl⟩
theorem eX3_loosePrice_66 : eb_at mX3_loosePrice 66 67 (.iload_n 1) 1 := ⟨by decide +kernel, rfl⟩
theorem eX3_loosePrice_67 : eb_at mX3_loosePrice 67 68 (.ireturn) 1 := ⟨by decide +kernel, rfl⟩
theorem eX3_ownerKnownTo_0 : eb_at mX3_ownerKnownTo 0 2 (.ldc 95) 2 := ⟨by decide +kernel, rfl⟩
theorem eX3_ownerKnownTo_2 : eb_at mX3_ownerKnownTo 2 3 (.istore_n 3) 1 := ⟨by decide +kernel, rfl⟩
theorem eX3_ownerKnownTo_3 : eb_at mX3_ownerKnownTo 3 4 (.iconst (-1)) 1 := ⟨by decide +kernel, rfl⟩
theorem eX3_ownerKnownTo_4 : eb_at mX3_ownerKnownTo 4 6 (.istore 4) 2 := ⟨by decide +kernel, rfl⟩
theorem eX3_ownerKnownTo_6 : eb_at mX3_ownerKnownTo 6 7 (.iconst 0) 1 := ⟨by decide +kernel, rfl⟩
theorem eX3_ownerKnownTo_7 : eb_at mX3_ownerKnownTo 7 9 (.istore 5) 2 := ⟨by decide +kernel, rfl⟩
theorem eX3_ownerKnownTo_9 : eb_at mX3_ownerKnownTo 9 11 (.iload 5) 2 := ⟨by decide +kernel, rfl⟩
theorem eX3_ownerKnownTo_11 : eb_at mX3_ownerKnownTo 11 12 (.iload_n 2) 1 := ⟨by decide +kernel, rfl⟩
theorem eX3_ownerKnownTo_12 : eb_at mX3_ownerKnownTo 12 15 (.if_icmp .gt 39) 3 := ⟨by decide +kernel, rfl⟩
theorem eX3_ownerKnownTo_15 : eb_at mX3_ownerKnownTo 15 16 (.aload_n 0) 1 := ⟨by decide +kernel, rfl⟩
theorem eX3_ownerKnownTo_16 : eb_gf mX3_ownerKnownTo 16 19 3 2 := ⟨15, (RX3, TX3, 13), by decide +kernel, rfl, rfl, by decide, wd_199⟩
theorem eX3_ownerKnownTo_19 : eb_at mX3_ownerKnownTo 19 21 (.iload 5) 2 := ⟨by decide +kernel, rfl⟩
theorem eX3_ownerKnownTo_21 : eb_at mX3_ownerKnownTo 21 22 (.iaload) 1 := ⟨by decide +kernel, rfl⟩
theorem eX3_ownerKnownTo_22 : eb_at mX3_ownerKnownTo 22 23 (.aload_n 0) 1 := ⟨by decide +kernel, rfl⟩
theorem eX3_ownerKnownTo_23 : eb_at mX3_ownerKnownTo 23 25 (.iload 5) 2 := ⟨by decide +kernel, rfl⟩
theorem eX3_ownerKnownTo_25 : eb_at mX3_ownerKnownTo 25 26 (.iload_n 1) 1 := ⟨by decide +kernel, rfl⟩
theorem eX3_ownerKnownTo_26 : eb_cv mX3_ownerKnownTo 26 29 mX3_price 2 := ⟨100, (RX3, TX3, 13), by decide +kernel, rfl, wd_440, wd_441, wd_442, by decide, rfl, rfl, okX3_price⟩
theorem eX3_ownerKnownTo_29 : eb_at mX3_ownerKnownTo 29 30 (.iadd) 1 := ⟨by decide +kernel, rfl⟩
theorem eX3_ownerKnownTo_30 : eb_at mX3_ownerKnownTo 30 32 (.istore 6) 2 := ⟨by decide +kernel, rfl⟩
theorem eX3_ownerKnownTo_32 : eb_at mX3_ownerKnownTo 32 34 (.iload 6) 2 := ⟨by decide +kernel, rfl⟩
theorem eX3_ownerKnownTo_34 : eb_at mX3_ownerKnownTo 34 35 (.iload_n 3) 1 := ⟨by decide +kernel, rfl⟩
theorem eX3_ownerKnownTo_35 : eb_at mX3_ownerKnownTo 35 38 (.if_icmp .ge 10) 3 := ⟨by decide +kernel, rfl⟩
theorem eX3_ownerKnownTo_38 : eb_at mX3_ownerKnownTo 38 40 (.iload 6) 2 := ⟨by decide +kernel, rfl⟩
theorem eX3_ownerKnownTo_40 : eb_at mX3_ownerKnownTo 40 41 (.istore_n 3) 1 := ⟨by decide +kernel, rfl⟩
theorem eX3_ownerKnownTo_41 : eb_at mX3_ownerKnownTo 41 43 (.iload 5) 2 := ⟨by decide +kernel, rfl⟩
theorem eX3_ownerKnownTo_43 : eb_at mX3_ownerKnownTo 43 45 (.istore 4) 2 := ⟨by decide +kernel, rfl⟩
theorem eX3_ownerKnownTo_45 : eb_at mX3_ownerKnownTo 45 48 (.iinc 5 1) 3 := ⟨by decide +kernel, rfl⟩
theorem eX3_ownerKnownTo_48 : eb_at mX3_ownerKnownTo 48 51 (.goto (-39)) 3 := ⟨by decide +kernel, rfl⟩
theorem eX3_ownerKnownTo_51 : eb_at mX3_ownerKnownTo 51 53 (.iload 4) 2 := ⟨by decide +kernel, rfl⟩
theorem eX3_ownerKnownTo_53 : eb_at mX3_ownerKnownTo 53 54 (.ireturn) 1 := ⟨by decide +kernel, rfl⟩
theorem eX3_price_0 : eb_at mX3_price 0 1 (.aload_n 0) 1 := ⟨by decide +kernel, rfl⟩
theorem eX3_price_1 : eb_at mX3_price 1 2 (.aload_n 0) 1 := ⟨by decide +kernel, rfl⟩
theorem eX3_price_2 : eb_gf mX3_price 2 5 3 7 := ⟨31, (RX3, TX3, 13), by decide +kernel, rfl, rfl, by decide, wd_206⟩
theorem eX3_price_5 : eb_at mX3_price 5 6 (.aload_n 0) 1 := ⟨by decide +kernel, rfl⟩
theorem eX3_price_6 : eb_at mX3_price 6 7 (.iload_n 1) 1 := ⟨by decide +kernel, rfl⟩
theorem eX3_price_7 : eb_at mX3_price 7 8 (.iload_n 2) 1 := ⟨by decide +kernel, rfl⟩
theorem eX3_price_8 : eb_cv mX3_price 8 11 mX3_widthOf 2 := ⟨73, (RX3, TX3, 13), by decide +kernel, rfl, wd_320, wd_321, wd_322, by decide, rfl, rfl, okX3_widthOf⟩
theorem eX3_price_11 : eb_at mX3_price 11 12 (.isub) 1 := ⟨by decide +kernel, rfl⟩
theorem eX3_price_12 : eb_at mX3_price 12 13 (.iload_n 2) 1 := ⟨by decide +kernel, rfl⟩
theorem eX3_price_13 : eb_cv mX3_price 13 16 mX3_priceOf 2 := ⟨76, (RX3, TX3, 13), by decide +kernel, rfl, wd_324, wd_326, wd_2, by decide, rfl, rfl, okX3_priceOf⟩
theorem eX3_price_16 : eb_at mX3_price 16 17 (.ireturn) 1 := ⟨by decide +kernel, rfl⟩
theorem eX3_priceOf_0 : eb_at mX3_priceOf 0 1 (.iload_n 1) 1 := ⟨by decide +kernel, rfl⟩
theorem eX3_priceOf_1 : eb_at mX3_priceOf 1 4 (.ifCond .ge 15) 3 := ⟨by decide +kernel, rfl⟩
theorem eX3_priceOf_4 : eb_at mX3_priceOf 4 5 (.aload_n 0) 1 := ⟨by decide +kernel, rfl⟩
theorem eX3_priceOf_5 : eb_gf mX3_priceOf 5 8 3 9 := ⟨37, (RX3, TX3, 13), by decide +kernel, rfl, rfl, by decide, wd_209⟩
theorem eX3_priceOf_8 : eb_at mX3_priceOf 8 9 (.aload_n 0) 1 := ⟨by decide +kernel, rfl⟩
theorem eX3_priceOf_9 : eb_at mX3_priceOf 9 10 (.iload_n 1) 1 := ⟨by decide +kernel, rfl⟩
theorem eX3_priceOf_10 : eb_at mX3_priceOf 10 11 (.ineg) 1 := ⟨by decide +kernel, rfl⟩
theorem eX3_priceOf_11 : eb_cv mX3_priceOf 11 14 mX3_tightPrice 1 := ⟨79, (RX3, TX3, 13), by decide +kernel, rfl, wd_328, wd_330, wd_3, by decide, rfl, rfl, okX3_tightPrice⟩
theorem eX3_priceOf_14 : eb_at mX3_priceOf 14 15 (.iadd) 1 := ⟨by decide +kernel, rfl⟩
theorem eX3_priceOf_15 : eb_at mX3_priceOf 15 16 (.ireturn) 1 := ⟨by decide +kernel, rfl⟩
theorem eX3_priceOf_16 : eb_at mX3_priceOf 16 17 (.aload_n 0) 1 := ⟨by decide +kernel, rfl⟩
theorem eX3_priceOf_17 : eb_gf mX3_priceOf 17 20 3 10 := ⟨40, (RX3, TX3, 13), by decide +kernel, rfl, rfl, by decide, wd_210⟩
theorem eX3_priceOf_20 : eb_at mX3_priceOf 20 23 (.ifCond .eq 18) 3 := ⟨by decide +kernel, rfl⟩
theorem eX3_priceOf_23 : eb_at mX3_priceOf 23 24 (.iload_n 2) 1 := ⟨by decide +kernel, rfl⟩
theorem eX3_priceOf_24 : eb_at mX3_priceOf 24 25 (.aload_n 0) 1 := ⟨by decide +kernel, rfl⟩
theorem eX3_priceOf_25 : eb_gf mX3_priceOf 25 28 3 6 := ⟨27, (RX3, TX3, 13), by decide +kernel, rfl, rfl, by decide, wd_205⟩
theorem eX3_priceOf_28 : eb_at mX3_priceOf 28 31 (.if_icmp .ne 10) 3 := ⟨by decide +kernel, rfl⟩
theorem eX3_priceOf_31 : eb_at mX3_priceOf 31 32 (.aload_n 0) 1 := ⟨by decide +kernel, rfl⟩
theorem eX3_priceOf_32 : eb_gf mX3_priceOf 32 35 3 9 := ⟨37, (RX3, TX3, 13), by decide +kernel, rfl, rfl, by decide, wd_209⟩
theorem eX3_priceOf_35 : eb_at mX3_priceOf 35 38 (.goto 13) 3 := ⟨by decide +kernel, rfl⟩
theorem eX3_priceOf_38 : eb_at mX3_priceOf 38 39 (.aload_n 0) 1 := ⟨by decide +kernel, rfl⟩
theorem eX3_priceOf_39 : eb_gf mX3_priceOf 39 42 3 9 := ⟨37, (RX3, TX3, 13), by decide +kernel, rfl, rfl, by decide, wd_209⟩
theorem eX3_priceOf_42 : eb_at mX3_priceOf 42 43 (.aload_n 0) 1 := ⟨by decide +kernel, rfl⟩
theorem eX3_priceOf_43 : eb_at mX3_priceOf 43 44 (.iload_n 1) 1 := ⟨by decide +kernel, rfl⟩
theorem eX3_priceOf_44 : eb_cv mX3_priceOf 44 47 mX3_loosePrice 1 := ⟨83, (RX3, TX3, 13), by decide +kernel, rfl, wd_332, wd_334, wd_4, by decide, rfl, rfl, okX3_loosePrice⟩
theorem eX3_priceOf_47 : eb_at mX3_priceOf 47 48 (.iadd) 1 := ⟨by decide +kernel, rfl⟩
theorem eX3_priceOf_48 : eb_at mX3_priceOf 48 49 (.ireturn) 1 := ⟨by decide +kernel, rfl⟩
theorem eX3_rivers_0 : eb_at mX3_rivers 0 1 (.iconst 0) 1 := ⟨by decide +kernel, rfl⟩
theorem eX3_rivers_1 : eb_at mX3_rivers 1 2 (.istore_n 1) 1 := ⟨by decide +kernel, rfl⟩
theorem eX3_rivers_2 : eb_at mX3_rivers 2 3 (.iconst 1) 1 := ⟨by decide +kernel, rfl⟩
theorem eX3_rivers_3 : eb_at mX3_rivers 3 4 (.istore_n 2) 1 := ⟨by decide +kernel, rfl⟩
theorem eX3_rivers_4 : eb_at mX3_rivers 4 5 (.iload_n 2) 1 := ⟨by decide +kernel, rfl⟩
theorem eX3_rivers_5 : eb_at mX3_rivers 5 6 (.aload_n 0) 1 := ⟨by decide +kernel, rfl⟩
theorem eX3_rivers_6 : eb_gf mX3_rivers 6 9 3 11 := ⟨44, (RX3, TX3, 13), by decide +kernel, rfl, rfl, by decide, wd_211⟩
theorem eX3_rivers_9 : eb_at mX3_rivers 9 12 (.if_icmp .ge 56) 3 := ⟨by decide +kernel, rfl⟩
theorem eX3_rivers_12 : eb_at mX3_rivers 12 13 (.aload_n 0) 1 := ⟨by decide +kernel, rfl⟩
theorem eX3_rivers_13 : eb_at mX3_rivers 13 14 (.iload_n 2) 1 := ⟨by decide +kernel, rfl⟩
theorem eX3_rivers_14 : eb_cv mX3_rivers 14 17 mX3_beginOf 1 := ⟨114, (RX3, TX3, 13), by decide +kernel, rfl, wd_448, wd_449, wd_450, by decide, rfl, rfl, okX3_beginOf⟩
theorem eX3_rivers_17 : eb_at mX3_rivers 17 18 (.istore_n 3) 1 := ⟨by decide +kernel, rfl⟩
theorem eX3_rivers_18 : eb_at mX3_rivers 18 19 (.iload_n 3) 1 := ⟨by decide +kernel, rfl⟩
theorem eX3_rivers_19 : eb_at mX3_rivers 19 20 (.iconst 1) 1 := ⟨by decide +kernel, rfl⟩
theorem eX3_rivers_20 : eb_at mX3_rivers 20 21 (.iadd) 1 := ⟨by decide +kernel, rfl⟩
theorem eX3_rivers_21 : eb_at mX3_rivers 21 23 (.istore 4) 2 := ⟨by decide +kernel, rfl⟩
theorem eX3_rivers_23 : eb_at mX3_rivers 23 25 (.iload 4) 2 := ⟨by decide +kernel, rfl⟩
theorem eX3_rivers_25 : eb_at mX3_rivers 25 26 (.aload_n 0) 1 := ⟨by decide +kernel, rfl⟩
theorem eX3_rivers_26 : eb_at mX3_rivers 26 27 (.iload_n 2) 1 := ⟨by decide +kernel, rfl⟩
theorem eX3_rivers_27 : eb_cv mX3_rivers 27 30 mX3_endOf 1 := ⟨117, (RX3, TX3, 13), by decide +kernel, rfl, wd_452, wd_453, wd_454, by decide, rfl, rfl, okX3_endOf⟩
theorem eX3_rivers_30 : eb_at mX3_rivers 30 33 (.if_icmp .ge 29) 3 := ⟨by decide +kernel, rfl⟩
theorem eX3_rivers_33 : eb_at mX3_rivers 33 34 (.aload_n 0) 1 := ⟨by decide +kernel, rfl⟩
theorem eX3_rivers_34 : eb_at mX3_rivers 34 35 (.iload_n 2) 1 := ⟨by decide +kernel, rfl⟩
theorem eX3_rivers_35 : eb_at mX3_rivers 35 36 (.iconst 1) 1 := ⟨by decide +kernel, rfl⟩
theorem eX3_rivers_36 : eb_at mX3_rivers 36 37 (.isub) 1 := ⟨by decide +kernel, rfl⟩
theorem eX3_rivers_37 : eb_at mX3_rivers 37 38 (.aload_n 0) 1 := ⟨by decide +kernel, rfl⟩
theorem eX3_rivers_38 : eb_at mX3_rivers 38 39 (.iload_n 3) 1 := ⟨by decide +kernel, rfl⟩
theorem eX3_rivers_39 : eb_at mX3_rivers 39 41 (.iload 4) 2 := ⟨by decide +kernel, rfl⟩
theorem eX3_rivers_41 : eb_cv mX3_rivers 41 44 mX3_widthOf 2 := ⟨73, (RX3, TX3, 13), by decide +kernel, rfl, wd_320, wd_321, wd_322, by decide, rfl, rfl, okX3_widthOf⟩
theorem eX3_rivers_44 : eb_cv mX3_rivers 44 47 mX3_hasGapAt 2 := ⟨120, (RX3, TX3, 13), by decide +kernel, rfl, wd_456, wd_458, wd_10, by decide, rfl, rfl, okX3_hasGapAt⟩
theorem eX3_rivers_47 : eb_at mX3_rivers 47 50 (.ifCond .eq 6) 3 := ⟨by decide +kernel, rfl⟩
theorem eX3_rivers_50 : eb_at mX3_rivers 50 53 (.iinc 1 1) 3 := ⟨by decide +kernel, rfl⟩
theorem eX3_rivers_53 : eb_at mX3_rivers 53 56 (.iinc 4 1) 3 := ⟨by decide +kernel, rfl⟩
theorem eX3_rivers_56 : eb_at mX3_rivers 56 59 (.goto (-33)) 3 := ⟨by decide +kernel, rfl⟩
theorem eX3_rivers_59 : eb_at mX3_rivers 59 62 (.iinc 2 1) 3 := ⟨by decide +kernel, rfl⟩
theorem eX3_rivers_62 : eb_at mX3_rivers 62 65 (.goto (-58)) 3 := ⟨by decide +kernel, rfl⟩
theorem eX3_rivers_65 : eb_at mX3_rivers 65 66 (.iload_n 1) 1 := ⟨by decide +kernel, rfl⟩
theorem eX3_rivers_66 : eb_at mX3_rivers 66 67 (.ireturn) 1 := ⟨by decide +kernel, rfl⟩
theorem eX3_runsAt_0 : eb_at mX3_runsAt 0 1 (.iconst 0) 1 := ⟨by decide +kernel, rfl⟩
theorem eX3_runsAt_1 : eb_at mX3_runsAt 1 2 (.istore_n 2) 1 := ⟨by decide +kernel, rfl⟩
theorem eX3_runsAt_2 : eb_at mX3_runsAt 2 3 (.iconst (-1)) 1 := ⟨by decide +kernel, rfl⟩
theorem eX3_runsAt_3 : eb_at mX3_runsAt 3 4 (.istore_n 3) 1 := ⟨by decide +kernel, rfl⟩
theorem eX3_runsAt_4 : eb_at mX3_runsAt 4 5 (.iload_n 1) 1 := ⟨by decide +kernel, rfl⟩
theorem eX3_runsAt_5 : eb_at mX3_runsAt 5 6 (.iconst 1) 1 := ⟨by decide +kernel, rfl⟩
theorem eX3_runsAt_6 : eb_at mX3_runsAt 6 7 (.iadd) 1 := ⟨by decide +kernel, rfl⟩
theorem eX3_runsAt_7 : eb_at mX3_runsAt 7 9 (.istore 4) 2 := ⟨by decide +kernel, rfl⟩
theorem eX3_runsAt_9 : eb_at mX3_runsAt 9 11 (.iload 4) 2 := ⟨by decide +kernel, rfl⟩
theorem eX3_runsAt_11 : eb_at mX3_runsAt 11 12 (.aload_n 0) 1 := ⟨by decide +kernel, rfl⟩
theorem eX3_runsAt_12 : eb_gf mX3_runsAt 12 15 3 6 := ⟨27, (RX3, TX3, 13), by decide +kernel, rfl, rfl, by decide, wd_205⟩
theorem eX3_runsAt_15 : eb_at mX3_runsAt 15 18 (.if_icmp .gt 30) 3 := ⟨by decide +kernel, rfl⟩
theorem eX3_runsAt_18 : eb_at mX3_runsAt 18 19 (.aload_n 0) 1 := ⟨by decide +kernel, rfl⟩
theorem eX3_runsAt_19 : eb_at mX3_runsAt 19 21 (.iload 4) 2 := ⟨by decide +kernel, rfl⟩
theorem eX3_runsAt_21 : eb_at mX3_runsAt 21 22 (.iload_n 1) 1 := ⟨by decide +kernel, rfl⟩
theorem eX3_runsAt_22 : eb_cv mX3_runsAt 22 25 mX3_ownerKnownTo 2 := ⟨103, (RX3, TX3, 13), by decide +kernel, rfl, wd_539, wd_540, wd_541, by decide, rfl, rfl, okX3_ownerKnownTo⟩
theorem eX3_runsAt_25 : eb_at mX3_runsAt 25 27 (.istore 5) 2 := ⟨by decide +kernel, rfl⟩
theorem eX3_runsAt_27 : eb_at mX3_runsAt 27 29 (.iload 5) 2 := ⟨by decide +kernel, rfl⟩
theorem eX3_runsAt_29 : eb_at mX3_runsAt 29 30 (.iload_n 3) 1 := ⟨by decide +kernel, rfl⟩
theorem eX3_runsAt_30 : eb_at mX3_runsAt 30 33 (.if_icmp .eq 6) 3 := ⟨by decide +kernel, rfl⟩
theorem eX3_runsAt_33 : eb_at mX3_runsAt 33 36 (.iinc 2 1) 3 := ⟨by decide +kernel, rfl⟩
theorem eX3_runsAt_36 : eb_at mX3_runsAt 36 38 (.iload 5) 2 := ⟨by decide +kernel, rfl⟩
theorem eX3_runsAt_38 : eb_at mX3_runsAt 38 39 (.istore_n 3) 1 := ⟨by decide +kernel, rfl⟩
theorem eX3_runsAt_39 : eb_at mX3_runsAt 39 42 (.iinc 4 1) 3 := ⟨by decide +kernel, rfl⟩
theorem eX3_runsAt_42 : eb_at mX3_runsAt 42 45 (.goto (-33)) 3 := ⟨by decide +kernel, rfl⟩
theorem eX3_runsAt_45 : eb_at mX3_runsAt 45 46 (.iload_n 2) 1 := ⟨by decide +kernel, rfl⟩
theorem eX3_runsAt_46 : eb_at mX3_runsAt 46 47 (.ireturn) 1 := ⟨by decide +kernel, rfl⟩
theorem eX3_settle_0 : eb_at mX3_settle 0 2 (.ldc 95) 2 := ⟨by decide +kernel, rfl⟩
theorem eX3_settle_2 : eb_at mX3_settle 2 3 (.istore_n 2) 1 := ⟨by decide +kernel, rfl⟩
theorem eX3_settle_3 : eb_at mX3_settle 3 4 (.iconst (-1)) 1 := ⟨by decide +kernel, rfl⟩
theorem eX3_settle_4 : eb_at mX3_settle 4 5 (.istore_n 3) 1 := ⟨by decide +kernel, rfl⟩
theorem eX3_settle_5 : eb_at mX3_settle 5 6 (.iload_n 1) 1 := ⟨by decide +kernel, rfl⟩
theorem eX3_settle_6 : eb_at mX3_settle 6 7 (.iconst 1) 1 := ⟨by decide +kernel, rfl⟩
theorem eX3_settle_7 : eb_at mX3_settle 7 8 (.isub) 1 := ⟨by decide +kernel, rfl⟩
theorem eX3_settle_8 : eb_at mX3_settle 8 10 (.istore 4) 2 := ⟨by decide +kernel, rfl⟩
theorem eX3_settle_10 : eb_at mX3_settle 10 12 (.iload 4) 2 := ⟨by decide +kernel, rfl⟩
theorem eX3_settle_12 : eb_at mX3_settle 12 15 (.ifCond .lt 74) 3 := ⟨by decide +kernel, rfl⟩
theorem eX3_settle_15 : eb_at mX3_settle 15 16 (.aload_n 0) 1 := ⟨by decide +kernel, rfl⟩
theorem eX3_settle_16 : eb_gf mX3_settle 16 19 3 7 := ⟨31, (RX3, TX3, 13), by decide +kernel, rfl, rfl, by decide, wd_206⟩
theorem eX3_settle_19 : eb_at mX3_settle 19 20 (.aload_n 0) 1 := ⟨by decide +kernel, rfl⟩
theorem eX3_settle_20 : eb_at mX3_settle 20 22 (.iload 4) 2 := ⟨by decide +kernel, rfl⟩
theorem eX3_settle_22 : eb_at mX3_settle 22 23 (.iload_n 1) 1 := ⟨by decide +kernel, rfl⟩
theorem eX3_settle_23 : eb_cv mX3_settle 23 26 mX3_widthOf 2 := ⟨73, (RX3, TX3, 13), by decide +kernel, rfl, wd_320, wd_321, wd_322, by decide, rfl, rfl, okX3_widthOf⟩
theorem eX3_settle_26 : eb_at mX3_settle 26 27 (.isub) 1 := ⟨by decide +kernel, rfl⟩
theorem eX3_settle_27 : eb_at mX3_settle 27 29 (.istore 5) 2 := ⟨by decide +kernel, rfl⟩
theorem eX3_settle_29 : eb_at mX3_settle 29 30 (.aload_n 0) 1 := ⟨by decide +kernel, rfl⟩
theorem eX3_settle_30 : eb_at mX3_settle 30 32 (.iload 5) 2 := ⟨by decide +kernel, rfl⟩
theorem eX3_settle_32 : eb_at mX3_settle 32 33 (.iload_n 1) 1 := ⟨by decide +kernel, rfl⟩
theorem eX3_settle_33 : eb_cv mX3_settle 33 36 mX3_priceOf 2 := ⟨76, (RX3, TX3, 13), by decide +kernel, rfl, wd_324, wd_326, wd_2, by decide, rfl, rfl, okX3_priceOf⟩
theorem eX3_settle_36 : eb_at mX3_settle 36 38 (.istore 6) 2 := ⟨by decide +kernel, rfl⟩
theorem eX3_settle_38 : eb_at mX3_settle 38 40 (.iload 5) 2 := ⟨by decide +kernel, rfl⟩
theorem eX3_settle_40 : eb_at mX3_settle 40 43 (.ifCond .ge 12) 3 := ⟨by decide +kernel, rfl⟩
theorem eX3_settle_43 : eb_at mX3_settle 43 45 (.iload 6) 2 := ⟨by decide +kernel, rfl⟩
theorem eX3_settle_45 : eb_at mX3_settle 45 46 (.iload_n 2) 1 := ⟨by decide +kernel, rfl⟩
theorem eX3_settle_46 : eb_at mX3_settle 46 49 (.if_icmp .le 6) 3 := ⟨by decide +kernel, rfl⟩
theorem eX3_settle_49 : eb_at mX3_settle 49 52 (.goto 37) 3 := ⟨by decide +kernel, rfl⟩
theorem eX3_settle_52 : eb_at mX3_settle 52 53 (.aload_n 0) 1 := ⟨by decide +kernel, rfl⟩
theorem eX3_settle_53 : eb_gf mX3_settle 53 56 3 2 := ⟨15, (RX3, TX3, 13), by decide +kernel, rfl, rfl, by decide, wd_199⟩
theorem eX3_settle_56 : eb_at mX3_settle 56 58 (.iload 4) 2 := ⟨by decide +kernel, rfl⟩
theorem eX3_settle_58 : eb_at mX3_settle 58 59 (.iaload) 1 := ⟨by decide +kernel, rfl⟩
theorem eX3_settle_59 : eb_at mX3_settle 59 61 (.iload 6) 2 := ⟨by decide +kernel, rfl⟩
theorem eX3_settle_61 : eb_at mX3_settle 61 62 (.iadd) 1 := ⟨by decide +kernel, rfl⟩
theorem eX3_settle_62 : eb_at mX3_settle 62 63 (.iload_n 2) 1 := ⟨by decide +kernel, rfl⟩
theorem eX3_settle_63 : eb_at mX3_settle 63 66 (.if_icmp .gt 17) 3 := ⟨by decide +kernel, rfl⟩
theorem eX3_settle_66 : eb_at mX3_settle 66 67 (.aload_n 0) 1 := ⟨by decide +kernel, rfl⟩
theorem eX3_settle_67 : eb_gf mX3_settle 67 70 3 2 := ⟨15, (RX3, TX3, 13), by decide +kernel, rfl, rfl, by decide, wd_199⟩
theorem eX3_settle_70 : eb_at mX3_settle 70 72 (.iload 4) 2 := ⟨by decide +kernel, rfl⟩
theorem eX3_settle_72 : eb_at mX3_settle 72 73 (.iaload) 1 := ⟨by decide +kernel, rfl⟩
theorem eX3_settle_73 : eb_at mX3_settle 73 75 (.iload 6) 2 := ⟨by decide +kernel, rfl⟩
theorem eX3_settle_75 : eb_at mX3_settle 75 76 (.iadd) 1 := ⟨by decide +kernel, rfl⟩
theorem eX3_settle_76 : eb_at mX3_settle 76 77 (.istore_n 2) 1 := ⟨by decide +kernel, rfl⟩
theorem eX3_settle_77 : eb_at mX3_settle 77 79 (.iload 4) 2 := ⟨by decide +kernel, rfl⟩
theorem eX3_settle_79 : eb_at mX3_settle 79 80 (.istore_n 3) 1 := ⟨by decide +kernel, rfl⟩
theorem eX3_settle_80 : eb_at mX3_settle 80 83 (.iinc 4 (-1)) 3 := ⟨by decide +kernel, rfl⟩
theorem eX3_settle_83 : eb_at mX3_settle 83 86 (.goto (-73)) 3 := ⟨by decide +kernel, rfl⟩
theorem eX3_settle_86 : eb_at mX3_settle 86 87 (.aload_n 0) 1 := ⟨by decide +kernel, rfl⟩
theorem eX3_settle_87 : eb_gf mX3_settle 87 90 3 2 := ⟨15, (RX3, TX3, 13), by decide +kernel, rfl, rfl, by decide, wd_199⟩
theorem eX3_settle_90 : eb_at mX3_settle 90 91 (.iload_n 1) 1 := ⟨by decide +kernel, rfl⟩
theorem eX3_settle_91 : eb_at mX3_settle 91 92 (.iload_n 2) 1 := ⟨by decide +kernel, rfl⟩
theorem eX3_settle_92 : eb_at mX3_settle 92 93 (.iastore) 1 := ⟨by decide +kernel, rfl⟩
theorem eX3_settle_93 : eb_at mX3_settle 93 94 (.aload_n 0) 1 := ⟨by decide +kernel, rfl⟩
theorem eX3_settle_94 : eb_gf mX3_settle 94 97 3 3 := ⟨18, (RX3, TX3, 13), by decide +kernel, rfl, rfl, by decide, wd_201⟩
theorem eX3_settle_97 : eb_at mX3_settle 97 98 (.iload_n 1) 1 := ⟨by decide +kernel, rfl⟩
theorem eX3_settle_98 : eb_at mX3_settle 98 99 (.iload_n 3) 1 := ⟨by decide +kernel, rfl⟩
theorem eX3_settle_99 : eb_at mX3_settle 99 100 (.iastore) 1 := ⟨by decide +kernel, rfl⟩
theorem eX3_settle_100 : eb_at mX3_settle 100 101 (.return_) 1 := ⟨by decide +kernel, rfl⟩
theorem eX3_solve_0 : eb_at mX3_solve 0 1 (.aload_n 0) 1 := ⟨by decide +kernel, rfl⟩
theorem eX3_solve_1 : eb_gf mX3_solve 1 4 3 2 := ⟨15, (RX3, TX3, 13), by decide +kernel, rfl, rfl, by decide, wd_199⟩
theorem eX3_solve_4 : eb_at mX3_solve 4 5 (.iconst 0) 1 := ⟨by decide +kernel, rfl⟩
theorem eX3_solve_5 : eb_at mX3_solve 5 6 (.iconst 0) 1 := ⟨by decide +kernel, rfl⟩
theorem eX3_solve_6 : eb_at mX3_solve 6 7 (.iastore) 1 := ⟨by decide +kernel, rfl⟩
theorem eX3_solve_7 : eb_at mX3_solve 7 8 (.aload_n 0) 1 := ⟨by decide +kernel, rfl⟩
theorem eX3_solve_8 : eb_gf mX3_solve 8 11 3 3 := ⟨18, (RX3, TX3, 13), by decide +kernel, rfl, rfl, by decide, wd_201⟩
theorem eX3_solve_11 : eb_at mX3_solve 11 12 (.iconst 0) 1 := ⟨by decide +kernel, rfl⟩
theorem eX3_solve_12 : eb_at mX3_solve 12 13 (.iconst (-1)) 1 := ⟨by decide +kernel, rfl⟩
theorem eX3_solve_13 : eb_at mX3_solve 13 14 (.iastore) 1 := ⟨by decide +kernel, rfl⟩
theorem eX3_solve_14 : eb_at mX3_solve 14 15 (.iconst 1) 1 := ⟨by decide +kernel, rfl⟩
theorem eX3_solve_15 : eb_at mX3_solve 15 16 (.istore_n 1) 1 := ⟨by decide +kernel, rfl⟩
theorem eX3_solve_16 : eb_at mX3_solve 16 17 (.iload_n 1) 1 := ⟨by decide +kernel, rfl⟩
theorem eX3_solve_17 : eb_at mX3_solve 17 18 (.aload_n 0) 1 := ⟨by decide +kernel, rfl⟩
theorem eX3_solve_18 : eb_gf mX3_solve 18 21 3 6 := ⟨27, (RX3, TX3, 13), by decide +kernel, rfl, rfl, by decide, wd_205⟩
theorem eX3_solve_21 : eb_at mX3_solve 21 24 (.if_icmp .gt 14) 3 := ⟨by decide +kernel, rfl⟩
theorem eX3_solve_24 : eb_at mX3_solve 24 25 (.aload_n 0) 1 := ⟨by decide +kernel, rfl⟩
theorem eX3_solve_25 : eb_at mX3_solve 25 26 (.iload_n 1) 1 := ⟨by decide +kernel, rfl⟩
theorem eX3_solve_26 : eb_cv mX3_solve 26 29 mX3_settle 1 := ⟨86, (RX3, TX3, 13), by decide +kernel, rfl, wd_315, wd_317, wd_1, by decide, rfl, rfl, okX3_settle⟩
theorem eX3_solve_29 : eb_at mX3_solve 29 32 (.iinc 1 1) 3 := ⟨by decide +kernel, rfl⟩
theorem eX3_solve_32 : eb_at mX3_solve 32 35 (.goto (-16)) 3 := ⟨by decide +kernel, rfl⟩
theorem eX3_solve_35 : eb_at mX3_solve 35 36 (.aload_n 0) 1 := ⟨by decide +kernel, rfl⟩
theorem eX3_solve_36 : eb_cv mX3_solve 36 39 mX3_layLines 0 := ⟨90, (RX3, TX3, 13), by decide +kernel, rfl, wd_336, wd_338, wd_5, by decide, rfl, rfl, okX3_layLines⟩
theorem eX3_solve_39 : eb_at mX3_solve 39 40 (.return_) 1 := ⟨by decide +kernel, rfl⟩
theorem eX3_tightPrice_0 : eb_at mX3_tightPrice 0 1 (.aload_n 0) 1 := ⟨by decide +kernel, rfl⟩
theorem eX3_tightPrice_1 : eb_gf mX3_tightPrice 1 4 3 8 := ⟨34, (RX3, TX3, 13), by decide +kernel, rfl, rfl, by decide, wd_208⟩
theorem eX3_tightPrice_4 : eb_at mX3_tightPrice 4 36 (.tableswitch 46 0 3 #[32, 46, 36, 41]) 32 := ⟨by decide +kernel, rfl⟩
theorem eX3_tightPrice_36 : eb_at mX3_tightPrice 36 37 (.iload_n 1) 1 := ⟨by decide +kernel, rfl⟩
theorem eX3_tightPrice_37 : eb_at mX3_tightPrice 37 38 (.iload_n 1) 1 := ⟨by decide +kernel, rfl⟩
theorem eX3_tightPrice_38 : eb_at mX3_tightPrice 38 39 (.imul) 1 := ⟨by decide +kernel, rfl⟩
theorem eX3_tightPrice_39 : eb_at mX3_tightPrice 39 40 (.ireturn) 1 := ⟨by decide +kernel, rfl⟩
theorem eX3_tightPrice_40 : eb_at mX3_tightPrice 40 42 (.bipush 20) 2 := ⟨by decide +kernel, rfl⟩
theorem eX3_tightPrice_42 : eb_at mX3_tightPrice 42 43 (.iload_n 1) 1 := ⟨by decide +kernel, rfl⟩
theorem eX3_tightPrice_43 : eb_at mX3_tightPrice 43 44 (.imul) 1 := ⟨by decide +kernel, rfl⟩
theorem eX3_tightPrice_44 : eb_at mX3_tightPrice 44 45 (.ireturn) 1 := ⟨by decide +kernel, rfl⟩
theorem eX3_tightPrice_45 : eb_at mX3_tightPrice 45 47 (.bipush 100) 2 := ⟨by decide +kernel, rfl⟩
theorem eX3_tightPrice_47 : eb_at mX3_tightPrice 47 48 (.iload_n 1) 1 := ⟨by decide +kernel, rfl⟩
theorem eX3_tightPrice_48 : eb_at mX3_tightPrice 48 49 (.iadd) 1 := ⟨by decide +kernel, rfl⟩
theorem eX3_tightPrice_49 : eb_at mX3_tightPrice 49 50 (.ireturn) 1 := ⟨by decide +kernel, rfl⟩
theorem eX3_tightPrice_50 : eb_at mX3_tightPrice 50 51 (.iload_n 1) 1 := ⟨by decide +kernel, rfl⟩
theorem eX3_tightPrice_51 : eb_at mX3_tightPrice 51 52 (.ireturn) 1 := ⟨by decide +kernel, rfl⟩
end
section
theorem eX3_widen_0 : eb_at mX3_widen 0 1 (.iload_n 1) 1 := ⟨by decide +kernel, rfl⟩
theorem eX3_widen_1 : eb_at mX3_widen 1 2 (.iconst 1) 1 := ⟨by decide +kernel, rfl⟩
theorem eX3_widen_2 : eb_at mX3_widen 2 3 (.iadd) 1 := ⟨by decide +kernel, rfl⟩
theorem eX3_widen_3 : eb_at mX3_widen 3 4 (.istore_n 3) 1 := ⟨by decide +kernel, rfl⟩
theorem eX3_widen_4 : eb_at mX3_widen 4 5 (.iload_n 3) 1 := ⟨by decide +kernel, rfl⟩
theorem eX3_widen_5 : eb_at mX3_widen 5 6 (.aload_n 0) 1 := ⟨by decide +kernel, rfl⟩
theorem eX3_widen_6 : eb_gf mX3_widen 6 9 3 6 := ⟨27, (RX3, TX3, 13), by decide +kernel, rfl, rfl, by decide, wd_205⟩
theorem eX3_widen_9 : eb_at mX3_widen 9 12 (.if_icmp .gt 19) 3 := ⟨by decide +kernel, rfl⟩
theorem eX3_widen_12 : eb_at mX3_widen 12 13 (.aload_n 0) 1 := ⟨by decide +kernel, rfl⟩
theorem eX3_widen_13 : eb_gf mX3_widen 13 16 3 1 := ⟨9, (RX3, TX3, 13), by decide +kernel, rfl, rfl, by decide, wd_198⟩
theorem eX3_widen_16 : eb_at mX3_widen 16 17 (.iload_n 3) 1 := ⟨by decide +kernel, rfl⟩
theorem eX3_widen_17 : eb_at mX3_widen 17 18 (.dup2) 1 := ⟨by decide +kernel, rfl⟩
theorem eX3_widen_18 : eb_at mX3_widen 18 19 (.iaload) 1 := ⟨by decide +kernel, rfl⟩
theorem eX3_widen_19 : eb_at mX3_widen 19 20 (.iload_n 2) 1 := ⟨by decide +kernel, rfl⟩
theorem eX3_widen_20 : eb_at mX3_widen 20 21 (.iadd) 1 := ⟨by decide +kernel, rfl⟩
theorem eX3_widen_21 : eb_at mX3_widen 21 22 (.iastore) 1 := ⟨by decide +kernel, rfl⟩
theorem eX3_widen_22 : eb_at mX3_widen 22 25 (.iinc 3 1) 3 := ⟨by decide +kernel, rfl⟩
theorem eX3_widen_25 : eb_at mX3_widen 25 28 (.goto (-21)) 3 := ⟨by decide +kernel, rfl⟩
theorem eX3_widen_28 : eb_at mX3_widen 28 29 (.return_) 1 := ⟨by decide +kernel, rfl⟩
theorem eX3_widthOf_0 : eb_at mX3_widthOf 0 1 (.aload_n 0) 1 := ⟨by decide +kernel, rfl⟩
theorem eX3_widthOf_1 : eb_gf mX3_widthOf 1 4 3 1 := ⟨9, (RX3, TX3, 13), by decide +kernel, rfl, rfl, by decide, wd_198⟩
theorem eX3_widthOf_4 : eb_at mX3_widthOf 4 5 (.iload_n 2) 1 := ⟨by decide +kernel, rfl⟩
theorem eX3_widthOf_5 : eb_at mX3_widthOf 5 6 (.iaload) 1 := ⟨by decide +kernel, rfl⟩
theorem eX3_widthOf_6 : eb_at mX3_widthOf 6 7 (.aload_n 0) 1 := ⟨by decide +kernel, rfl⟩
theorem eX3_widthOf_7 : eb_gf mX3_widthOf 7 10 3 1 := ⟨9, (RX3, TX3, 13), by decide +kernel, rfl, rfl, by decide, wd_198⟩
theorem eX3_widthOf_10 : eb_at mX3_widthOf 10 11 (.iload_n 1) 1 := ⟨by decide +kernel, rfl⟩
theorem eX3_widthOf_11 : eb_at mX3_widthOf 11 12 (.iaload) 1 := ⟨by decide +kernel, rfl⟩
theorem eX3_widthOf_12 : eb_at mX3_widthOf 12 13 (.isub) 1 := ⟨by decide +kernel, rfl⟩
theorem eX3_widthOf_13 : eb_at mX3_widthOf 13 14 (.iconst 1) 1 := ⟨by decide +kernel, rfl⟩
theorem eX3_widthOf_14 : eb_at mX3_widthOf 14 15 (.isub) 1 := ⟨by decide +kernel, rfl⟩
theorem eX3_widthOf_15 : eb_at mX3_widthOf 15 16 (.ireturn) 1 := ⟨by decide +kernel, rfl⟩
end
section
theorem eX4_giveBack_0 : eb_at mX4_giveBack 0 1 (.aload_n 0) 1 := ⟨by decide +kernel, rfl⟩
theorem eX4_giveBack_1 : eb_at mX4_giveBack 1 2 (.aload_n 0) 1 := ⟨by decide +kernel, rfl⟩
theorem eX4_giveBack_2 : eb_gf mX4_giveBack 2 5 4 1 := ⟨17, (RX4, TX4, 3), by decide +kernel, rfl, rfl, by decide, wd_148⟩
theorem eX4_giveBack_5 : eb_at mX4_giveBack 5 7 (.bipush 16) 2 := ⟨by decide +kernel, rfl⟩
theorem eX4_giveBack_7 : eb_at mX4_giveBack 7 8 (.iadd) 1 := ⟨by decide +kernel, rfl⟩
theorem eX4_giveBack_8 : eb_at mX4_giveBack 8 9 (.iload_n 1) 1 := ⟨by decide +kernel, rfl⟩
theorem eX4_giveBack_9 : eb_at mX4_giveBack 9 10 (.isub) 1 := ⟨by decide +kernel, rfl⟩
theorem eX4_giveBack_10 : eb_at mX4_giveBack 10 12 (.bipush 16) 2 := ⟨by decide +kernel, rfl⟩
theorem eX4_giveBack_12 : eb_at mX4_giveBack 12 13 (.irem) 1 := ⟨by decide +kernel, rfl⟩
theorem eX4_giveBack_13 : eb_pf mX4_giveBack 13 16 4 1 false .int := ⟨17, (RX4, TX4, 3), by decide +kernel, rfl, rfl, by decide, wd_148, rfl, by decide +kernel, fun h => absurd h (by decide)⟩
theorem eX4_giveBack_16 : eb_at mX4_giveBack 16 17 (.aload_n 0) 1 := ⟨by decide +kernel, rfl⟩
theorem eX4_giveBack_17 : eb_at mX4_giveBack 17 18 (.dup) 1 := ⟨by decide +kernel, rfl⟩
theorem eX4_giveBack_18 : eb_gf mX4_giveBack 18 21 4 2 := ⟨21, (RX4, TX4, 3), by decide +kernel, rfl, rfl, by decide, wd_149⟩
theorem eX4_giveBack_21 : eb_at mX4_giveBack 21 22 (.iload_n 1) 1 := ⟨by decide +kernel, rfl⟩
theorem eX4_giveBack_22 : eb_at mX4_giveBack 22 23 (.isub) 1 := ⟨by decide +kernel, rfl⟩
theorem eX4_giveBack_23 : eb_pf mX4_giveBack 23 26 4 2 false .int := ⟨21, (RX4, TX4, 3), by decide +kernel, rfl, rfl, by decide, wd_149, rfl, by decide +kernel, fun h => absurd h (by decide)⟩
theorem eX4_giveBack_26 : eb_at mX4_giveBack 26 27 (.aload_n 2) 1 := ⟨by decide +kernel, rfl⟩
theorem eX4_giveBack_27 : eb_at mX4_giveBack 27 28 (.aload_n 0) 1 := ⟨by decide +kernel, rfl⟩
theorem eX4_giveBack_28 : eb_gf mX4_giveBack 28 31 4 0 := ⟨11, (RX4, TX4, 3), by decide +kernel, rfl, rfl, by decide, wd_147⟩
theorem eX4_giveBack_31 : eb_at mX4_giveBack 31 32 (.aload_n 0) 1 := ⟨by decide +kernel, rfl⟩
theorem eX4_giveBack_32 : eb_gf mX4_giveBack 32 35 4 1 := ⟨17, (RX4, TX4, 3), by decide +kernel, rfl, rfl, by decide, wd_148⟩
theorem eX4_giveBack_35 : eb_at mX4_giveBack 35 36 (.aaload) 1 := ⟨by decide +kernel, rfl⟩
theorem eX4_giveBack_36 : eb_cv mX4_giveBack 36 39 mX7_become 1 := ⟨25, (RX7, TX7, 6), by decide +kernel, rfl, wd_405, wd_406, wd_407, by decide, rfl, rfl, okX7_become⟩
theorem eX4_giveBack_39 : eb_at mX4_giveBack 39 40 (.return_) 1 := ⟨by decide +kernel, rfl⟩
theorem eX4_init_0 : eb_at mX4_init 0 1 (.aload_n 0) 1 := ⟨by decide +kernel, rfl⟩
theorem eX4_init_1 : eb_at mX4_init 1 4 (.invokespecial 3) 3 := ⟨by decide +kernel, rfl⟩
theorem eX4_init_4 : eb_at mX4_init 4 5 (.aload_n 0) 1 := ⟨by decide +kernel, rfl⟩
theorem eX4_init_5 : eb_at mX4_init 5 7 (.bipush 16) 2 := ⟨by decide +kernel, rfl⟩
theorem eX4_init_7 : eb_at mX4_init 7 10 (.anewarray 9) 3 := ⟨by decide +kernel, rfl⟩
theorem eX4_init_10 : eb_pf mX4_init 10 13 4 0 true (.array (.object "EvenBreaks$Text")) := ⟨11, (RX4, TX4, 3), by decide +kernel, rfl, rfl, by decide, wd_147, rfl, by decide +kernel, fun _ => ⟨rfl, rfl⟩⟩
theorem eX4_init_13 : eb_at mX4_init 13 14 (.aload_n 0) 1 := ⟨by decide +kernel, rfl⟩
theorem eX4_init_14 : eb_at mX4_init 14 15 (.iconst 0) 1 := ⟨by decide +kernel, rfl⟩
theorem eX4_init_15 : eb_pf mX4_init 15 18 4 1 false .int := ⟨17, (RX4, TX4, 3), by decide +kernel, rfl, rfl, by decide, wd_148, rfl, by decide +kernel, fun h => absurd h (by decide)⟩
theorem eX4_init_18 : eb_at mX4_init 18 19 (.aload_n 0) 1 := ⟨by decide +kernel, rfl⟩
theorem eX4_init_19 : eb_at mX4_init 19 20 (.iconst 0) 1 := ⟨by decide +kernel, rfl⟩
theorem eX4_init_20 : eb_pf mX4_init 20 23 4 2 false .int := ⟨21, (RX4, TX4, 3), by decide +kernel, rfl, rfl, by decide, wd_149, rfl, by decide +kernel, fun h => absurd h (by decide)⟩
theorem eX4_init_23 : eb_at mX4_init 23 24 (.iconst 0) 1 := ⟨by decide +kernel, rfl⟩
theorem eX4_init_24 : eb_at mX4_init 24 25 (.istore_n 1) 1 := ⟨by decide +kernel, rfl⟩
theorem eX4_init_25 : eb_at mX4_init 25 26 (.iload_n 1) 1 := ⟨by decide +kernel, rfl⟩
theorem eX4_init_26 : eb_at mX4_init 26 28 (.bipush 16) 2 := ⟨by decide +kernel, rfl⟩
theorem eX4_init_28 : eb_at mX4_init 28 31 (.if_icmp .ge 22) 3 := ⟨by decide +kernel, rfl⟩
theorem eX4_init_31 : eb_at mX4_init 31 32 (.aload_n 0) 1 := ⟨by decide +kernel, rfl⟩
theorem eX4_init_32 : eb_gf mX4_init 32 35 4 0 := ⟨11, (RX4, TX4, 3), by decide +kernel, rfl, rfl, by decide, wd_147⟩
theorem eX4_init_35 : eb_at mX4_init 35 36 (.iload_n 1) 1 := ⟨by decide +kernel, rfl⟩
theorem eX4_init_36 : eb_nw_at mX4_init 36 39 6 [.null, .int (eb_I 0), .int (eb_I 0), .int (eb_I 0), .int (eb_I 0), .int (eb_I 0)] 6 := ⟨9, (RX7, TX7, 6), by decide +kernel, rfl, rfl, rfl, wd_144, wd_74, wd_53, by decide +kernel⟩
theorem eX4_init_39 : eb_at mX4_init 39 40 (.dup) 1 := ⟨by decide +kernel, rfl⟩
theorem eX4_init_40 : eb_cc mX4_init 40 43 mX7_init 0 := ⟨24, by decide +kernel, rfl, Or.inr ⟨"EvenBreaks", List.mem_filter.mpr ⟨List.mem_of_getElem? (i := 146) (by decide +kernel), rfl⟩⟩, rfl, wd_76, by decide, rfl, okX7_init⟩
theorem eX4_init_43 : eb_at mX4_init 43 44 (.aastore) 1 := ⟨by decide +kernel, rfl⟩
theorem eX4_init_44 : eb_at mX4_init 44 47 (.iinc 1 1) 3 := ⟨by decide +kernel, rfl⟩
theorem eX4_init_47 : eb_at mX4_init 47 50 (.goto (-22)) 3 := ⟨by decide +kernel, rfl⟩
theorem eX4_init_50 : eb_at mX4_init 50 51 (.return_) 1 := ⟨by decide +kernel, rfl⟩
theorem eX4_remember_0 : eb_at mX4_remember 0 1 (.aload_n 0) 1 := ⟨by decide +kernel, rfl⟩
theorem eX4_remember_1 : eb_gf mX4_remember 1 4 4 0 := ⟨11, (RX4, TX4, 3), by decide +kernel, rfl, rfl, by decide, wd_147⟩
theorem eX4_remember_4 : eb_at mX4_remember 4 5 (.aload_n 0) 1 := ⟨by decide +kernel, rfl⟩
theorem eX4_remember_5 : eb_gf mX4_remember 5 8 4 1 := ⟨17, (RX4, TX4, 3), by decide +kernel, rfl, rfl, by decide, wd_148⟩
theorem eX4_remember_8 : eb_at mX4_remember 8 9 (.aaload) 1 := ⟨by decide +kernel, rfl⟩
theorem eX4_remember_9 : eb_at mX4_remember 9 10 (.aload_n 1) 1 := ⟨by decide +kernel, rfl⟩
theorem eX4_remember_10 : eb_cv mX4_remember 10 13 mX7_become 1 := ⟨25, (RX7, TX7, 6), by decide +kernel, rfl, wd_405, wd_406, wd_407, by decide, rfl, rfl, okX7_become⟩
theorem eX4_remember_13 : eb_at mX4_remember 13 14 (.aload_n 0) 1 := ⟨by decide +kernel, rfl⟩
theorem eX4_remember_14 : eb_at mX4_remember 14 15 (.aload_n 0) 1 := ⟨by decide +kernel, rfl⟩
theorem eX4_remember_15 : eb_gf mX4_remember 15 18 4 1 := ⟨17, (RX4, TX4, 3), by decide +kernel, rfl, rfl, by decide, wd_148⟩
theorem eX4_remember_18 : eb_at mX4_remember 18 19 (.iconst 1) 1 := ⟨by decide +kernel, rfl⟩
theorem eX4_remember_19 : eb_at mX4_remember 19 20 (.iadd) 1 := ⟨by decide +kernel, rfl⟩
theorem eX4_remember_20 : eb_at mX4_remember 20 22 (.bipush 16) 2 := ⟨by decide +kernel, rfl⟩
theorem eX4_remember_22 : eb_at mX4_remember 22 23 (.irem) 1 := ⟨by decide +kernel, rfl⟩
theorem eX4_remember_23 : eb_pf mX4_remember 23 26 4 1 false .int := ⟨17, (RX4, TX4, 3), by decide +kernel, rfl, rfl, by decide, wd_148, rfl, by decide +kernel, fun h => absurd h (by decide)⟩
theorem eX4_remember_26 : eb_at mX4_remember 26 27 (.aload_n 0) 1 := ⟨by decide +kernel, rfl⟩
theorem eX4_remember_27 : eb_at mX4_remember 27 28 (.aload_n 0) 1 := ⟨by decide +kernel, rfl⟩
theorem eX4_remember_28 : eb_gf mX4_remember 28 31 4 2 := ⟨21, (RX4, TX4, 3), by decide +kernel, rfl, rfl, by decide, wd_149⟩
theorem eX4_remember_31 : eb_at mX4_remember 31 32 (.iconst 1) 1 := ⟨by decide +kernel, rfl⟩
theorem eX4_remember_32 : eb_at mX4_remember 32 33 (.iadd) 1 := ⟨by decide +kernel, rfl⟩
theorem eX4_remember_33 : eb_at mX4_remember 33 35 (.bipush 16) 2 := ⟨by decide +kernel, rfl⟩
theorem eX4_remember_35 : eb_cs mX4_remember 35 38 mJ_min 2 := ⟨29, by decide +kernel, rfl, wd_416, wd_417, by decide, okJ_min⟩
theorem eX4_remember_38 : eb_pf mX4_remember 38 41 4 2 false .int := ⟨21, (RX4, TX4, 3), by decide +kernel, rfl, rfl, by decide, wd_149, rfl, by decide +kernel, fun h => absurd h (by decide)⟩
theorem eX4_remember_41 : eb_at mX4_remember 41 42 (.return_) 1 := ⟨by decide +kernel, rfl⟩
end
section
theorem eX5_lengthOf_0 : eb_at mX5_lengthOf 0 1 (.iconst 0) 1 := ⟨by decide +kernel, rfl⟩
theorem eX5_lengthOf_1 : eb_at mX5_lengthOf 1 2 (.istore_n 2) 1 := ⟨by decide +kernel, rfl⟩
theorem eX5_lengthOf_2 : eb_at mX5_lengthOf 2 3 (.iload_n 2) 1 := ⟨by decide +kernel, rfl⟩
theorem eX5_lengthOf_3 : eb_at mX5_lengthOf 3 5 (.bipush 12) 2 := ⟨by decide +kernel, rfl⟩
theorem eX5_lengthOf_5 : eb_at mX5_lengthOf 5 8 (.if_icmp .ge 18) 3 := ⟨by decide +kernel, rfl⟩
theorem eX5_lengthOf_8 : eb_at mX5_lengthOf 8 9 (.lload_n 0) 1 := ⟨by decide +kernel, rfl⟩
theorem eX5_lengthOf_9 : eb_at mX5_lengthOf 9 10 (.iload_n 2) 1 := ⟨by decide +kernel, rfl⟩
theorem eX5_lengthOf_10 : eb_cs mX5_lengthOf 10 13 mX5_letterAt 2 := ⟨11, by decide +kernel, rfl, wd_305, wd_306, by decide, okX5_letterAt⟩
theorem eX5_lengthOf_13 : eb_at mX5_lengthOf 13 14 (.iconst (-1)) 1 := ⟨by decide +kernel, rfl⟩
theorem eX5_lengthOf_14 : eb_at mX5_lengthOf 14 17 (.if_icmp .eq 9) 3 := ⟨by decide +kernel, rfl⟩
theorem eX5_lengthOf_17 : eb_at mX5_lengthOf 17 20 (.iinc 2 1) 3 := ⟨by decide +kernel, rfl⟩
theorem eX5_lengthOf_20 : eb_at mX5_lengthOf 20 23 (.goto (-18)) 3 := ⟨by decide +kernel, rfl⟩
theorem eX5_lengthOf_23 : eb_at mX5_lengthOf 23 24 (.iload_n 2) 1 := ⟨by decide +kernel, rfl⟩
theorem eX5_lengthOf_24 : eb_at mX5_lengthOf 24 25 (.ireturn) 1 := ⟨by decide +kernel, rfl⟩
theorem eX5_letterAt_0 : eb_at mX5_letterAt 0 1 (.lload_n 0) 1 := ⟨by decide +kernel, rfl⟩
theorem eX5_letterAt_1 : eb_at mX5_letterAt 1 2 (.iconst 5) 1 := ⟨by decide +kernel, rfl⟩
theorem eX5_letterAt_2 : eb_at mX5_letterAt 2 3 (.iload_n 2) 1 := ⟨by decide +kernel, rfl⟩
theorem eX5_letterAt_3 : eb_at mX5_letterAt 3 4 (.imul) 1 := ⟨by decide +kernel, rfl⟩
theorem eX5_letterAt_4 : eb_at mX5_letterAt 4 5 (.lshr) 1 := ⟨by decide +kernel, rfl⟩
theorem eX5_letterAt_5 : eb_at mX5_letterAt 5 6 (.l2i) 1 := ⟨by decide +kernel, rfl⟩
theorem eX5_letterAt_6 : eb_at mX5_letterAt 6 8 (.bipush 31) 2 := ⟨by decide +kernel, rfl⟩
theorem eX5_letterAt_8 : eb_at mX5_letterAt 8 9 (.iand) 1 := ⟨by decide +kernel, rfl⟩
theorem eX5_letterAt_9 : eb_at mX5_letterAt 9 10 (.istore_n 3) 1 := ⟨by decide +kernel, rfl⟩
theorem eX5_letterAt_10 : eb_at mX5_letterAt 10 11 (.iload_n 3) 1 := ⟨by decide +kernel, rfl⟩
theorem eX5_letterAt_11 : eb_at mX5_letterAt 11 14 (.ifCond .ne 7) 3 := ⟨by decide +kernel, rfl⟩
theorem eX5_letterAt_14 : eb_at mX5_letterAt 14 15 (.iconst (-1)) 1 := ⟨by decide +kernel, rfl⟩
theorem eX5_letterAt_15 : eb_at mX5_letterAt 15 18 (.goto 9) 3 := ⟨by decide +kernel, rfl⟩
theorem eX5_letterAt_18 : eb_at mX5_letterAt 18 20 (.bipush 97) 2 := ⟨by decide +kernel, rfl⟩
theorem eX5_letterAt_20 : eb_at mX5_letterAt 20 21 (.iload_n 3) 1 := ⟨by decide +kernel, rfl⟩
theorem eX5_letterAt_21 : eb_at mX5_letterAt 21 22 (.iadd) 1 := ⟨by decide +kernel, rfl⟩
theorem eX5_letterAt_22 : eb_at mX5_letterAt 22 23 (.iconst 1) 1 := ⟨by decide +kernel, rfl⟩
theorem eX5_letterAt_23 : eb_at mX5_letterAt 23 24 (.isub) 1 := ⟨by decide +kernel, rfl⟩
theorem eX5_letterAt_24 : eb_at mX5_letterAt 24 25 (.ireturn) 1 := ⟨by decide +kernel, rfl⟩
theorem eX5_letterWidth_0 : eb_at mX5_letterWidth 0 1 (.iload_n 0) 1 := ⟨by decide +kernel, rfl⟩
theorem eX5_letterWidth_1 : eb_at mX5_letterWidth 1 88 (.tableswitch 91 102 119 #[87, 91, 91, 87, 87, 91, 87, 89, 91, 91, 91, 91, 87, 91, 87, 91, 91, 89]) 87 := ⟨by decide +kernel, rfl⟩
theorem eX5_letterWidth_88 : eb_at mX5_letterWidth 88 89 (.iconst 1) 1 := ⟨by decide +kernel, rfl⟩
theorem eX5_letterWidth_89 : eb_at mX5_letterWidth 89 90 (.ireturn) 1 := ⟨by decide +kernel, rfl⟩
theorem eX5_letterWidth_90 : eb_at mX5_letterWidth 90 91 (.iconst 3) 1 := ⟨by decide +kernel, rfl⟩
theorem eX5_letterWidth_91 : eb_at mX5_letterWidth 91 92 (.ireturn) 1 := ⟨by decide +kernel, rfl⟩
theorem eX5_letterWidth_92 : eb_at mX5_letterWidth 92 93 (.iconst 2) 1 := ⟨by decide +kernel, rfl⟩
theorem eX5_letterWidth_93 : eb_at mX5_letterWidth 93 94 (.ireturn) 1 := ⟨by decide +kernel, rfl⟩
theorem eX5_widthOf_0 : eb_at mX5_widthOf 0 1 (.iconst 0) 1 := ⟨by decide +kernel, rfl⟩
theorem eX5_widthOf_1 : eb_at mX5_widthOf 1 2 (.istore_n 2) 1 := ⟨by decide +kernel, rfl⟩
theorem eX5_widthOf_2 : eb_at mX5_widthOf 2 3 (.lload_n 0) 1 := ⟨by decide +kernel, rfl⟩
theorem eX5_widthOf_3 : eb_cs mX5_widthOf 3 6 mX5_lengthOf 1 := ⟨15, by decide +kernel, rfl, wd_302, wd_303, by decide, okX5_lengthOf⟩
theorem eX5_widthOf_6 : eb_at mX5_widthOf 6 7 (.istore_n 3) 1 := ⟨by decide +kernel, rfl⟩
theorem eX5_widthOf_7 : eb_at mX5_widthOf 7 8 (.iconst 0) 1 := ⟨by decide +kernel, rfl⟩
theorem eX5_widthOf_8 : eb_at mX5_widthOf 8 10 (.istore 4) 2 := ⟨by decide +kernel, rfl⟩
theorem eX5_widthOf_10 : eb_at mX5_widthOf 10 12 (.iload 4) 2 := ⟨by decide +kernel, rfl⟩
theorem eX5_widthOf_12 : eb_at mX5_widthOf 12 13 (.iload_n 3) 1 := ⟨by decide +kernel, rfl⟩
theorem eX5_widthOf_13 : eb_at mX5_widthOf 13 16 (.if_icmp .ge 21) 3 := ⟨by decide +kernel, rfl⟩
theorem eX5_widthOf_16 : eb_at mX5_widthOf 16 17 (.iload_n 2) 1 := ⟨by decide +kernel, rfl⟩
theorem eX5_widthOf_17 : eb_at mX5_widthOf 17 18 (.lload_n 0) 1 := ⟨by decide +kernel, rfl⟩
theorem eX5_widthOf_18 : eb_at mX5_widthOf 18 20 (.iload 4) 2 := ⟨by decide +kernel, rfl⟩
theorem eX5_widthOf_20 : eb_cs mX5_widthOf 20 23 mX5_letterAt 2 := ⟨11, by decide +kernel, rfl, wd_305, wd_306, by decide, okX5_letterAt⟩
theorem eX5_widthOf_23 : eb_cs mX5_widthOf 23 26 mX5_letterWidth 1 := ⟨19, by decide +kernel, rfl, wd_308, wd_309, by decide, okX5_letterWidth⟩
theorem eX5_widthOf_26 : eb_at mX5_widthOf 26 27 (.iadd) 1 := ⟨by decide +kernel, rfl⟩
theorem eX5_widthOf_27 : eb_at mX5_widthOf 27 28 (.istore_n 2) 1 := ⟨by decide +kernel, rfl⟩
theorem eX5_widthOf_28 : eb_at mX5_widthOf 28 31 (.iinc 4 1) 3 := ⟨by decide +kernel, rfl⟩
theorem eX5_widthOf_31 : eb_at mX5_widthOf 31 34 (.goto (-21)) 3 := ⟨by decide +kernel, rfl⟩
theorem eX5_widthOf_34 : eb_at mX5_widthOf 34 35 (.iload_n 2) 1 := ⟨by decide +kernel, rfl⟩
theorem eX5_widthOf_35 : eb_at mX5_widthOf 35 36 (.ireturn) 1 := ⟨by decide +kernel, rfl⟩
theorem eX5_withLetter_0 : eb_at mX5_withLetter 0 1 (.lload_n 0) 1 := ⟨by decide +kernel, rfl⟩
theorem eX5_withLetter_1 : eb_at mX5_withLetter 1 2 (.iload_n 3) 1 := ⟨by decide +kernel, rfl⟩
theorem eX5_withLetter_2 : eb_at mX5_withLetter 2 4 (.bipush 97) 2 := ⟨by decide +kernel, rfl⟩
theorem eX5_withLetter_4 : eb_at mX5_withLetter 4 5 (.isub) 1 := ⟨by decide +kernel, rfl⟩
theorem eX5_withLetter_5 : eb_at mX5_withLetter 5 6 (.iconst 1) 1 := ⟨by decide +kernel, rfl⟩
theorem eX5_withLetter_6 : eb_at mX5_withLetter 6 7 (.iadd) 1 := ⟨by decide +kernel, rfl⟩
theorem eX5_withLetter_7 : eb_at mX5_withLetter 7 8 (.i2l) 1 := ⟨by decide +kernel, rfl⟩
theorem eX5_withLetter_8 : eb_at mX5_withLetter 8 9 (.iconst 5) 1 := ⟨by decide +kernel, rfl⟩
theorem eX5_withLetter_9 : eb_at mX5_withLetter 9 10 (.iload_n 2) 1 := ⟨by decide +kernel, rfl⟩
theorem eX5_withLetter_10 : eb_at mX5_withLetter 10 11 (.imul) 1 := ⟨by decide +kernel, rfl⟩
theorem eX5_withLetter_11 : eb_at mX5_withLetter 11 12 (.lshl) 1 := ⟨by decide +kernel, rfl⟩
theorem eX5_withLetter_12 : eb_at mX5_withLetter 12 13 (.lor) 1 := ⟨by decide +kernel, rfl⟩
theorem eX5_withLetter_13 : eb_at mX5_withLetter 13 14 (.lreturn) 1 := ⟨by decide +kernel, rfl⟩
end
section
theorem eX6_bestMeasure_0 : eb_at mX6_bestMeasure 0 1 (.iload_n 1) 1 := ⟨by decide +kernel, rfl⟩
theorem eX6_bestMeasure_1 : eb_at mX6_bestMeasure 1 2 (.istore_n 3) 1 := ⟨by decide +kernel, rfl⟩
theorem eX6_bestMeasure_2 : eb_at mX6_bestMeasure 2 3 (.iload_n 1) 1 := ⟨by decide +kernel, rfl⟩
theorem eX6_bestMeasure_3 : eb_at mX6_bestMeasure 3 4 (.iconst 1) 1 := ⟨by decide +kernel, rfl⟩
theorem eX6_bestMeasure_4 : eb_at mX6_bestMeasure 4 5 (.iadd) 1 := ⟨by decide +kernel, rfl⟩
theorem eX6_bestMeasure_5 : eb_at mX6_bestMeasure 5 7 (.istore 4) 2 := ⟨by decide +kernel, rfl⟩
theorem eX6_bestMeasure_7 : eb_at mX6_bestMeasure 7 9 (.iload 4) 2 := ⟨by decide +kernel, rfl⟩
theorem eX6_bestMeasure_9 : eb_at mX6_bestMeasure 9 10 (.iload_n 2) 1 := ⟨by decide +kernel, rfl⟩
theorem eX6_bestMeasure_10 : eb_at mX6_bestMeasure 10 13 (.if_icmp .gt 28) 3 := ⟨by decide +kernel, rfl⟩
theorem eX6_bestMeasure_13 : eb_at mX6_bestMeasure 13 14 (.aload_n 0) 1 := ⟨by decide +kernel, rfl⟩
theorem eX6_bestMeasure_14 : eb_gf mX6_bestMeasure 14 17 5 0 := ⟨9, (RX6, TX6, 6), by decide +kernel, rfl, rfl, by decide, wd_249⟩
theorem eX6_bestMeasure_17 : eb_at mX6_bestMeasure 17 19 (.iload 4) 2 := ⟨by decide +kernel, rfl⟩
theorem eX6_bestMeasure_19 : eb_at mX6_bestMeasure 19 20 (.iaload) 1 := ⟨by decide +kernel, rfl⟩
theorem eX6_bestMeasure_20 : eb_at mX6_bestMeasure 20 21 (.aload_n 0) 1 := ⟨by decide +kernel, rfl⟩
theorem eX6_bestMeasure_21 : eb_gf mX6_bestMeasure 21 24 5 0 := ⟨9, (RX6, TX6, 6), by decide +kernel, rfl, rfl, by decide, wd_249⟩
theorem eX6_bestMeasure_24 : eb_at mX6_bestMeasure 24 25 (.iload_n 3) 1 := ⟨by decide +kernel, rfl⟩
theorem eX6_bestMeasure_25 : eb_at mX6_bestMeasure 25 26 (.iaload) 1 := ⟨by decide +kernel, rfl⟩
theorem eX6_bestMeasure_26 : eb_at mX6_bestMeasure 26 29 (.if_icmp .ge 6) 3 := ⟨by decide +kernel, rfl⟩
theorem eX6_bestMeasure_29 : eb_at mX6_bestMeasure 29 31 (.iload 4) 2 := ⟨by decide +kernel, rfl⟩
theorem eX6_bestMeasure_31 : eb_at mX6_bestMeasure 31 32 (.istore_n 3) 1 := ⟨by decide +kernel, rfl⟩
theorem eX6_bestMeasure_32 : eb_at mX6_bestMeasure 32 35 (.iinc 4 1) 3 := ⟨by decide +kernel, rfl⟩
theorem eX6_bestMeasure_35 : eb_at mX6_bestMeasure 35 38 (.goto (-28)) 3 := ⟨by decide +kernel, rfl⟩
theorem eX6_bestMeasure_38 : eb_at mX6_bestMeasure 38 39 (.iload_n 3) 1 := ⟨by decide +kernel, rfl⟩
theorem eX6_bestMeasure_39 : eb_at mX6_bestMeasure 39 40 (.ireturn) 1 := ⟨by decide +kernel, rfl⟩
theorem eX6_fill_0 : eb_at mX6_fill 0 1 (.iconst 1) 1 := ⟨by decide +kernel, rfl⟩
theorem eX6_fill_1 : eb_at mX6_fill 1 2 (.istore_n 2) 1 := ⟨by decide +kernel, rfl⟩
theorem eX6_fill_2 : eb_at mX6_fill 2 3 (.iload_n 2) 1 := ⟨by decide +kernel, rfl⟩
theorem eX6_fill_3 : eb_at mX6_fill 3 6 (.sipush 200) 3 := ⟨by decide +kernel, rfl⟩
theorem eX6_fill_6 : eb_at mX6_fill 6 9 (.if_icmp .gt 38) 3 := ⟨by decide +kernel, rfl⟩
theorem eX6_fill_9 : eb_at mX6_fill 9 10 (.aload_n 1) 1 := ⟨by decide +kernel, rfl⟩
theorem eX6_fill_10 : eb_at mX6_fill 10 11 (.iload_n 2) 1 := ⟨by decide +kernel, rfl⟩
theorem eX6_fill_11 : eb_pf mX6_fill 11 14 3 7 false .int := ⟨34, (RX3, TX3, 13), by decide +kernel, rfl, rfl, by decide, wd_207, rfl, by decide +kernel, fun h => absurd h (by decide)⟩
theorem eX6_fill_14 : eb_at mX6_fill 14 15 (.aload_n 1) 1 := ⟨by decide +kernel, rfl⟩
theorem eX6_fill_15 : eb_cv mX6_fill 15 18 mX3_solve 0 := ⟨39, (RX3, TX3, 13), by decide +kernel, rfl, wd_468, wd_312, wd_313, by decide, rfl, rfl, okX3_solve⟩
theorem eX6_fill_18 : eb_at mX6_fill 18 19 (.aload_n 0) 1 := ⟨by decide +kernel, rfl⟩
theorem eX6_fill_19 : eb_gf mX6_fill 19 22 5 0 := ⟨9, (RX6, TX6, 6), by decide +kernel, rfl, rfl, by decide, wd_249⟩
theorem eX6_fill_22 : eb_at mX6_fill 22 23 (.iload_n 2) 1 := ⟨by decide +kernel, rfl⟩
theorem eX6_fill_23 : eb_at mX6_fill 23 24 (.aload_n 1) 1 := ⟨by decide +kernel, rfl⟩
theorem eX6_fill_24 : eb_cv mX6_fill 24 27 mX3_lastTotal 0 := ⟨42, (RX3, TX3, 13), by decide +kernel, rfl, wd_469, wd_429, wd_430, by decide, rfl, rfl, okX3_lastTotal⟩
theorem eX6_fill_27 : eb_at mX6_fill 27 28 (.iastore) 1 := ⟨by decide +kernel, rfl⟩
theorem eX6_fill_28 : eb_at mX6_fill 28 29 (.aload_n 0) 1 := ⟨by decide +kernel, rfl⟩
theorem eX6_fill_29 : eb_gf mX6_fill 29 32 5 1 := ⟨15, (RX6, TX6, 6), by decide +kernel, rfl, rfl, by decide, wd_251⟩
theorem eX6_fill_32 : eb_at mX6_fill 32 33 (.iload_n 2) 1 := ⟨by decide +kernel, rfl⟩
theorem eX6_fill_33 : eb_at mX6_fill 33 34 (.aload_n 1) 1 := ⟨by decide +kernel, rfl⟩
theorem eX6_fill_34 : eb_gf mX6_fill 34 37 3 12 := ⟨46, (RX3, TX3, 13), by decide +kernel, rfl, rfl, by decide, wd_214⟩
theorem eX6_fill_37 : eb_at mX6_fill 37 38 (.lastore) 1 := ⟨by decide +kernel, rfl⟩
theorem eX6_fill_38 : eb_at mX6_fill 38 41 (.iinc 2 1) 3 := ⟨by decide +kernel, rfl⟩
theorem eX6_fill_41 : eb_at mX6_fill 41 44 (.goto (-39)) 3 := ⟨by decide +kernel, rfl⟩
theorem eX6_fill_44 : eb_at mX6_fill 44 45 (.aload_n 0) 1 := ⟨by decide +kernel, rfl⟩
theorem eX6_fill_45 : eb_at mX6_fill 45 46 (.iconst 1) 1 := ⟨by decide +kernel, rfl⟩
theorem eX6_fill_46 : eb_pf mX6_fill 46 49 5 2 false .boolean := ⟨19, (RX6, TX6, 6), by decide +kernel, rfl, rfl, by decide, wd_252, rfl, by decide +kernel, fun h => absurd h (by decide)⟩
theorem eX6_fill_49 : eb_at mX6_fill 49 50 (.return_) 1 := ⟨by decide +kernel, rfl⟩
theorem eX6_fits_0 : eb_at mX6_fits 0 1 (.aload_n 0) 1 := ⟨by decide +kernel, rfl⟩
theorem eX6_fits_1 : eb_gf mX6_fits 1 4 5 1 := ⟨15, (RX6, TX6, 6), by decide +kernel, rfl, rfl, by decide, wd_251⟩
theorem eX6_fits_4 : eb_at mX6_fits 4 5 (.iload_n 1) 1 := ⟨by decide +kernel, rfl⟩
theorem eX6_fits_5 : eb_at mX6_fits 5 6 (.laload) 1 := ⟨by decide +kernel, rfl⟩
theorem eX6_fits_6 : eb_at mX6_fits 6 7 (.aload_n 0) 1 := ⟨by decide +kernel, rfl⟩
theorem eX6_fits_7 : eb_gf mX6_fits 7 10 5 4 := ⟨27, (RX6, TX6, 6), by decide +kernel, rfl, rfl, by decide, wd_256⟩
theorem eX6_fits_10 : eb_at mX6_fits 10 11 (.land) 1 := ⟨by decide +kernel, rfl⟩
theorem eX6_fits_11 : eb_at mX6_fits 11 12 (.aload_n 0) 1 := ⟨by decide +kernel, rfl⟩
theorem eX6_fits_12 : eb_gf mX6_fits 12 15 5 4 := ⟨27, (RX6, TX6, 6), by decide +kernel, rfl, rfl, by decide, wd_256⟩
theorem eX6_fits_15 : eb_at mX6_fits 15 16 (.lcmp) 1 := ⟨by decide +kernel, rfl⟩
theorem eX6_fits_16 : eb_at mX6_fits 16 19 (.ifCond .ne 23) 3 := ⟨by decide +kernel, rfl⟩
theorem eX6_fits_19 : eb_at mX6_fits 19 20 (.aload_n 0) 1 := ⟨by decide +kernel, rfl⟩
theorem eX6_fits_20 : eb_gf mX6_fits 20 23 5 1 := ⟨15, (RX6, TX6, 6), by decide +kernel, rfl, rfl, by decide, wd_251⟩
theorem eX6_fits_23 : eb_at mX6_fits 23 24 (.iload_n 1) 1 := ⟨by decide +kernel, rfl⟩
theorem eX6_fits_24 : eb_at mX6_fits 24 25 (.laload) 1 := ⟨by decide +kernel, rfl⟩
theorem eX6_fits_25 : eb_at mX6_fits 25 26 (.aload_n 0) 1 := ⟨by decide +kernel, rfl⟩
theorem eX6_fits_26 : eb_gf mX6_fits 26 29 5 5 := ⟨31, (RX6, TX6, 6), by decide +kernel, rfl, rfl, by decide, wd_257⟩
theorem eX6_fits_29 : eb_at mX6_fits 29 30 (.land) 1 := ⟨by decide +kernel, rfl⟩
theorem eX6_fits_30 : eb_at mX6_fits 30 31 (.lconst 0) 1 := ⟨by decide +kernel, rfl⟩
theorem eX6_fits_31 : eb_at mX6_fits 31 32 (.lcmp) 1 := ⟨by decide +kernel, rfl⟩
theorem eX6_fits_32 : eb_at mX6_fits 32 35 (.ifCond .ne 7) 3 := ⟨by decide +kernel, rfl⟩
theorem eX6_fits_35 : eb_at mX6_fits 35 36 (.iconst 1) 1 := ⟨by decide +kernel, rfl⟩
theorem eX6_fits_36 : eb_at mX6_fits 36 39 (.goto 4) 3 := ⟨by decide +kernel, rfl⟩
theorem eX6_fits_39 : eb_at mX6_fits 39 40 (.iconst 0) 1 := ⟨by decide +kernel, rfl⟩
theorem eX6_fits_40 : eb_at mX6_fits 40 41 (.ireturn) 1 := ⟨by decide +kernel, rfl⟩
theorem eX6_fitting_0 : eb_at mX6_fitting 0 1 (.iconst 0) 1 := ⟨by decide +kernel, rfl⟩
theorem eX6_fitting_1 : eb_at mX6_fitting 1 2 (.istore_n 1) 1 := ⟨by decide +kernel, rfl⟩
theorem eX6_fitting_2 : eb_at mX6_fitting 2 3 (.iconst 1) 1 := ⟨by decide +kernel, rfl⟩
theorem eX6_fitting_3 : eb_at mX6_fitting 3 4 (.istore_n 2) 1 := ⟨by decide +kernel, rfl⟩
theorem eX6_fitting_4 : eb_at mX6_fitting 4 5 (.iload_n 2) 1 := ⟨by decide +kernel, rfl⟩
theorem eX6_fitting_5 : eb_at mX6_fitting 5 8 (.sipush 200) 3 := ⟨by decide +kernel, rfl⟩
theorem eX6_fitting_8 : eb_at mX6_fitting 8 11 (.if_icmp .gt 20) 3 := ⟨by decide +kernel, rfl⟩
theorem eX6_fitting_11 : eb_at mX6_fitting 11 12 (.aload_n 0) 1 := ⟨by decide +kernel, rfl⟩
theorem eX6_fitting_12 : eb_at mX6_fitting 12 13 (.iload_n 2) 1 := ⟨by decide +kernel, rfl⟩
theorem eX6_fitting_13 : eb_cv mX6_fitting 13 16 mX6_fits 1 := ⟨50, (RX6, TX6, 6), by decide +kernel, rfl, wd_474, wd_476, wd_12, by decide, rfl, rfl, okX6_fits⟩
theorem eX6_fitting_16 : eb_at mX6_fitting 16 19 (.ifCond .eq 6) 3 := ⟨by decide +kernel, rfl⟩
theorem eX6_fitting_19 : eb_at mX6_fitting 19 22 (.iinc 1 1) 3 := ⟨by decide +kernel, rfl⟩
theorem eX6_fitting_22 : eb_at mX6_fitting 22 25 (.iinc 2 1) 3 := ⟨by decide +kernel, rfl⟩
theorem eX6_fitting_25 : eb_at mX6_fitting 25 28 (.goto (-21)) 3 := ⟨by decide +kernel, rfl⟩
theorem eX6_fitting_28 : eb_at mX6_fitting 28 29 (.iload_n 1) 1 := ⟨by decide +kernel, rfl⟩
theorem eX6_fitting_29 : eb_at mX6_fitting 29 30 (.ireturn) 1 := ⟨by decide +kernel, rfl⟩
theorem eX6_fittingThatBegin_0 : eb_at mX6_fittingThatBegin 0 1 (.iconst 0) 1 := ⟨by decide +kernel, rfl⟩
theorem eX6_fittingThatBegin_1 : eb_at mX6_fittingThatBegin 1 2 (.istore_n 2) 1 := ⟨by decide +kernel, rfl⟩
theorem eX6_fittingThatBegin_2 : eb_at mX6_fittingThatBegin 2 3 (.iconst 1) 1 := ⟨by decide +kernel, rfl⟩
theorem eX6_fittingThatBegin_3 : eb_at mX6_fittingThatBegin 3 4 (.istore_n 3) 1 := ⟨by decide +kernel, rfl⟩
theorem eX6_fittingThatBegin_4 : eb_at mX6_fittingThatBegin 4 5 (.iload_n 3) 1 := ⟨by decide +kernel, rfl⟩
theorem eX6_fittingThatBegin_5 : eb_at mX6_fittingThatBegin 5 8 (.sipush 200) 3 := ⟨by decide +kernel, rfl⟩
theorem eX6_fittingThatBegin_8 : eb_at mX6_fittingThatBegin 8 11 (.if_icmp .gt 35) 3 := ⟨by decide +kernel, rfl⟩
theorem eX6_fittingThatBegin_11 : eb_at mX6_fittingThatBegin 11 12 (.aload_n 0) 1 := ⟨by decide +kernel, rfl⟩
theorem eX6_fittingThatBegin_12 : eb_at mX6_fittingThatBegin 12 13 (.iload_n 3) 1 := ⟨by decide +kernel, rfl⟩
theorem eX6_fittingThatBegin_13 : eb_cv mX6_fittingThatBegin 13 16 mX6_fits 1 := ⟨50, (RX6, TX6, 6), by decide +kernel, rfl, wd_474, wd_476, wd_12, by decide, rfl, rfl, okX6_fits⟩
theorem eX6_fittingThatBegin_16 : eb_at mX6_fittingThatBegin 16 19 (.ifCond .eq 21) 3 := ⟨by decide +kernel, rfl⟩
theorem eX6_fittingThatBegin_19 : eb_at mX6_fittingThatBegin 19 20 (.aload_n 0) 1 := ⟨by decide +kernel, rfl⟩
theorem eX6_fittingThatBegin_20 : eb_gf mX6_fittingThatBegin 20 23 5 1 := ⟨15, (RX6, TX6, 6), by decide +kernel, rfl, rfl, by decide, wd_251⟩
theorem eX6_fittingThatBegin_23 : eb_at mX6_fittingThatBegin 23 24 (.iload_n 3) 1 := ⟨by decide +kernel, rfl⟩
theorem eX6_fittingThatBegin_24 : eb_at mX6_fittingThatBegin 24 25 (.laload) 1 := ⟨by decide +kernel, rfl⟩
theorem eX6_fittingThatBegin_25 : eb_at mX6_fittingThatBegin 25 26 (.iload_n 1) 1 := ⟨by decide +kernel, rfl⟩
theorem eX6_fittingThatBegin_26 : eb_at mX6_fittingThatBegin 26 27 (.lshr) 1 := ⟨by decide +kernel, rfl⟩
theorem eX6_fittingThatBegin_27 : eb_at mX6_fittingThatBegin 27 28 (.lconst 1) 1 := ⟨by decide +kernel, rfl⟩
theorem eX6_fittingThatBegin_28 : eb_at mX6_fittingThatBegin 28 29 (.land) 1 := ⟨by decide +kernel, rfl⟩
theorem eX6_fittingThatBegin_29 : eb_at mX6_fittingThatBegin 29 30 (.lconst 1) 1 := ⟨by decide +kernel, rfl⟩
theorem eX6_fittingThatBegin_30 : eb_at mX6_fittingThatBegin 30 31 (.lcmp) 1 := ⟨by decide +kernel, rfl⟩
theorem eX6_fittingThatBegin_31 : eb_at mX6_fittingThatBegin 31 34 (.ifCond .ne 6) 3 := ⟨by decide +kernel, rfl⟩
theorem eX6_fittingThatBegin_34 : eb_at mX6_fittingThatBegin 34 37 (.iinc 2 1) 3 := ⟨by decide +kernel, rfl⟩
theorem eX6_fittingThatBegin_37 : eb_at mX6_fittingThatBegin 37 40 (.iinc 3 1) 3 := ⟨by decide +kernel, rfl⟩
theorem eX6_fittingThatBegin_40 : eb_at mX6_fittingThatBegin 40 43 (.goto (-36)) 3 := ⟨by decide +kernel, rfl⟩
theorem eX6_fittingThatBegin_43 : eb_at mX6_fittingThatBegin 43 44 (.iload_n 2) 1 := ⟨by decide +kernel, rfl⟩
theorem eX6_fittingThatBegin_44 : eb_at mX6_fittingThatBegin 44 45 (.ireturn) 1 := ⟨by decide +kernel, rfl⟩
theorem eX6_forget_0 : eb_at mX6_forget 0 1 (.aload_n 0) 1 := ⟨by decide +kernel, rfl⟩
theorem eX6_forget_1 : eb_at mX6_forget 1 2 (.iconst 0) 1 := ⟨by decide +kernel, rfl⟩
theorem eX6_forget_2 : eb_pf mX6_forget 2 5 5 3 false .int := ⟨23, (RX6, TX6, 6), by decide +kernel, rfl, rfl, by decide, wd_254, rfl, by decide +kernel, fun h => absurd h (by decide)⟩
theorem eX6_forget_5 : eb_at mX6_forget 5 6 (.aload_n 0) 1 := ⟨by decide +kernel, rfl⟩
theorem eX6_forget_6 : eb_at mX6_forget 6 7 (.lconst 0) 1 := ⟨by decide +kernel, rfl⟩
theorem eX6_forget_7 : eb_pf mX6_forget 7 10 5 4 false .long := ⟨27, (RX6, TX6, 6), by decide +kernel, rfl, rfl, by decide, wd_256, rfl, by decide +kernel, fun h => absurd h (by decide)⟩
theorem eX6_forget_10 : eb_at mX6_forget 10 11 (.aload_n 0) 1 := ⟨by decide +kernel, rfl⟩
theorem eX6_forget_11 : eb_at mX6_forget 11 12 (.lconst 0) 1 := ⟨by decide +kernel, rfl⟩
theorem eX6_forget_12 : eb_pf mX6_forget 12 15 5 5 false .long := ⟨31, (RX6, TX6, 6), by decide +kernel, rfl, rfl, by decide, wd_257, rfl, by decide +kernel, fun h => absurd h (by decide)⟩
theorem eX6_forget_15 : eb_at mX6_forget 15 16 (.return_) 1 := ⟨by decide +kernel, rfl⟩
theorem eX6_greatestFitting_0 : eb_at mX6_greatestFitting 0 3 (.sipush 200) 3 := ⟨by decide +kernel, rfl⟩
theorem eX6_greatestFitting_3 : eb_at mX6_greatestFitting 3 4 (.istore_n 1) 1 := ⟨by decide +kernel, rfl⟩
theorem eX6_greatestFitting_4 : eb_at mX6_greatestFitting 4 5 (.iload_n 1) 1 := ⟨by decide +kernel, rfl⟩
theorem eX6_greatestFitting_5 : eb_at mX6_greatestFitting 5 6 (.iconst 1) 1 := ⟨by decide +kernel, rfl⟩
theorem eX6_greatestFitting_6 : eb_at mX6_greatestFitting 6 9 (.if_icmp .lt 19) 3 := ⟨by decide +kernel, rfl⟩
theorem eX6_greatestFitting_9 : eb_at mX6_greatestFitting 9 10 (.aload_n 0) 1 := ⟨by decide +kernel, rfl⟩
theorem eX6_greatestFitting_10 : eb_at mX6_greatestFitting 10 11 (.iload_n 1) 1 := ⟨by decide +kernel, rfl⟩
theorem eX6_greatestFitting_11 : eb_cv mX6_greatestFitting 11 14 mX6_fits 1 := ⟨50, (RX6, TX6, 6), by decide +kernel, rfl, wd_474, wd_476, wd_12, by decide, rfl, rfl, okX6_fits⟩
theorem eX6_greatestFitting_14 : eb_at mX6_greatestFitting 14 17 (.ifCond .eq 5) 3 := ⟨by decide +kernel, rfl⟩
theorem eX6_greatestFitting_17 : eb_at mX6_greatestFitting 17 18 (.iload_n 1) 1 := ⟨by decide +kernel, rfl⟩
theorem eX6_greatestFitting_18 : eb_at mX6_greatestFitting 18 19 (.ireturn) 1 := ⟨by decide +kernel, rfl⟩
theorem eX6_greatestFitting_19 : eb_at mX6_greatestFitting 19 22 (.iinc 1 (-1)) 3 := ⟨by decide +kernel, rfl⟩
theorem eX6_greatestFitting_22 : eb_at mX6_greatestFitting 22 25 (.goto (-18)) 3 := ⟨by decide +kernel, rfl⟩
theorem eX6_greatestFitting_25 : eb_at mX6_greatestFitting 25 26 (.iconst (-1)) 1 := ⟨by decide +kernel, rfl⟩
theorem eX6_greatestFitting_26 : eb_at mX6_greatestFitting 26 27 (.ireturn) 1 := ⟨by decide +kernel, rfl⟩
theorem eX6_init_0 : eb_at mX6_init 0 1 (.aload_n 0) 1 := ⟨by decide +kernel, rfl⟩
theorem eX6_init_1 : eb_at mX6_init 1 4 (.invokespecial 3) 3 := ⟨by decide +kernel, rfl⟩
theorem eX6_init_4 : eb_at mX6_init 4 5 (.aload_n 0) 1 := ⟨by decide +kernel, rfl⟩
theorem eX6_init_5 : eb_at mX6_init 5 8 (.sipush 201) 3 := ⟨by decide +kernel, rfl⟩
theorem eX6_init_8 : eb_at mX6_init 8 10 (.newarray .int) 2 := ⟨by decide +kernel, rfl⟩
theorem eX6_init_10 : eb_pf mX6_init 10 13 5 0 true (.array .int) := ⟨9, (RX6, TX6, 6), by decide +kernel, rfl, rfl, by decide, wd_249, rfl, by decide +kernel, fun _ => ⟨rfl, rfl⟩⟩
theorem eX6_init_13 : eb_at mX6_init 13 14 (.aload_n 0) 1 := ⟨by decide +kernel, rfl⟩
theorem eX6_init_14 : eb_at mX6_init 14 17 (.sipush 201) 3 := ⟨by decide +kernel, rfl⟩
theorem eX6_init_17 : eb_at mX6_init 17 19 (.newarray .long) 2 := ⟨by decide +kernel, rfl⟩
theorem eX6_init_19 : eb_pf mX6_init 19 22 5 1 true (.array .long) := ⟨15, (RX6, TX6, 6), by decide +kernel, rfl, rfl, by decide, wd_251, rfl, by decide +kernel, fun _ => ⟨rfl, rfl⟩⟩
theorem eX6_init_22 : eb_at mX6_init 22 23 (.aload_n 0) 1 := ⟨by decide +kernel, rfl⟩
theorem eX6_init_23 : eb_at mX6_init 23 24 (.iconst 0) 1 := ⟨by decide +kernel, rfl⟩
theorem eX6_init_24 : eb_pf mX6_init 24 27 5 2 false .boolean := ⟨19, (RX6, TX6, 6), by decide +kernel, rfl, rfl, by decide, wd_252, rfl, by decide +kernel, fun h => absurd h (by decide)⟩
theorem eX6_init_27 : eb_at mX6_init 27 28 (.aload_n 0) 1 := ⟨by decide +kernel, rfl⟩
theorem eX6_init_28 : eb_at mX6_init 28 29 (.iconst 0) 1 := ⟨by decide +kernel, rfl⟩
theorem eX6_init_29 : eb_pf mX6_init 29 32 5 3 false .int := ⟨23, (RX6, TX6, 6), by decide +kernel, rfl, rfl, by decide, wd_254, rfl, by decide +kernel, fun h => absurd h (by decide)⟩
theorem eX6_init_32 : eb_at mX6_init 32 33 (.aload_n 0) 1 := ⟨by decide +kernel, rfl⟩
theorem eX6_init_33 : eb_at mX6_init 33 34 (.lconst 0) 1 := ⟨by decide +kernel, rfl⟩
theorem eX6_init_34 : eb_pf mX6_init 34 37 5 4 false .long := ⟨27, (RX6, TX6, 6), by decide +kernel, rfl, rfl, by decide, wd_256, rfl, by decide +kernel, fun h => absurd h (by decide)⟩
theorem eX6_init_37 : eb_at mX6_init 37 38 (.aload_n 0) 1 := ⟨by decide +kernel, rfl⟩
theorem eX6_init_38 : eb_at mX6_init 38 39 (.lconst 0) 1 := ⟨by decide +kernel, rfl⟩
theorem eX6_init_39 : eb_pf mX6_init 39 42 5 5 false .long := ⟨31, (RX6, TX6, 6), by decide +kernel, rfl, rfl, by decide, wd_257, rfl, by decide +kernel, fun h => absurd h (by decide)⟩
theorem eX6_init_42 : eb_at mX6_init 42 43 (.return_) 1 := ⟨by decide +kernel, rfl⟩
theorem eX6_leastFitting_0 : eb_at mX6_leastFitting 0 1 (.iconst 1) 1 := ⟨by decide +kernel, rfl⟩
theorem eX6_leastFitting_1 : eb_at mX6_leastFitting 1 2 (.istore_n 1) 1 := ⟨by decide +kernel, rfl⟩
theorem eX6_leastFitting_2 : eb_at mX6_leastFitting 2 3 (.iload_n 1) 1 := ⟨by decide +kernel, rfl⟩
theorem eX6_leastFitting_3 : eb_at mX6_leastFitting 3 6 (.sipush 200) 3 := ⟨by decide +kernel, rfl⟩
theorem eX6_leastFitting_6 : eb_at mX6_leastFitting 6 9 (.if_icmp .gt 19) 3 := ⟨by decide +kernel, rfl⟩
theorem eX6_leastFitting_9 : eb_at mX6_leastFitting 9 10 (.aload_n 0) 1 := ⟨by decide +kernel, rfl⟩
theorem eX6_leastFitting_10 : eb_at mX6_leastFitting 10 11 (.iload_n 1) 1 := ⟨by decide +kernel, rfl⟩
theorem eX6_leastFitting_11 : eb_cv mX6_leastFitting 11 14 mX6_fits 1 := ⟨50, (RX6, TX6, 6), by decide +kernel, rfl, wd_474, wd_476, wd_12, by decide, rfl, rfl, okX6_fits⟩
theorem eX6_leastFitting_14 : eb_at mX6_leastFitting 14 17 (.ifCond .eq 5) 3 := ⟨by decide +kernel, rfl⟩
theorem eX6_leastFitting_17 : eb_at mX6_leastFitting 17 18 (.iload_n 1) 1 := ⟨by decide +kernel, rfl⟩
theorem eX6_leastFitting_18 : eb_at mX6_leastFitting 18 19 (.ireturn) 1 := ⟨by decide +kernel, rfl⟩
theorem eX6_leastFitting_19 : eb_at mX6_leastFitting 19 22 (.iinc 1 1) 3 := ⟨by decide +kernel, rfl⟩
theorem eX6_leastFitting_22 : eb_at mX6_leastFitting 22 25 (.goto (-20)) 3 := ⟨by decide +kernel, rfl⟩
theorem eX6_leastFitting_25 : eb_at mX6_leastFitting 25 26 (.iconst (-1)) 1 := ⟨by decide +kernel, rfl⟩
theorem eX6_leastFitting_26 : eb_at mX6_leastFitting 26 27 (.ireturn) 1 := ⟨by decide +kernel, rfl⟩
theorem eX6_look_0 : eb_at mX6_look 0 1 (.aload_n 0) 1 := ⟨by decide +kernel, rfl⟩
theorem eX6_look_1 : eb_cv mX6_look 1 4 mX6_fitting 0 := ⟨54, (RX6, TX6, 6), by decide +kernel, rfl, wd_490, wd_471, wd_472, by decide, rfl, rfl, okX6_fitting⟩
theorem eX6_look_4 : eb_at mX6_look 4 5 (.istore_n 2) 1 := ⟨by decide +kernel, rfl⟩
theorem eX6_look_5 : eb_at mX6_look 5 6 (.iload_n 2) 1 := ⟨by decide +kernel, rfl⟩
theorem eX6_look_6 : eb_at mX6_look 6 7 (.istore_n 3) 1 := ⟨by decide +kernel, rfl⟩
theorem eX6_look_7 : eb_at mX6_look 7 8 (.iconst (-1)) 1 := ⟨by decide +kernel, rfl⟩
theorem eX6_look_8 : eb_at mX6_look 8 10 (.istore 4) 2 := ⟨by decide +kernel, rfl⟩
theorem eX6_look_10 : eb_at mX6_look 10 11 (.iconst 0) 1 := ⟨by decide +kernel, rfl⟩
theorem eX6_look_11 : eb_at mX6_look 11 13 (.istore 5) 2 := ⟨by decide +kernel, rfl⟩
theorem eX6_look_13 : eb_at mX6_look 13 15 (.iload 5) 2 := ⟨by decide +kernel, rfl⟩
theorem eX6_look_15 : eb_at mX6_look 15 16 (.iload_n 1) 1 := ⟨by decide +kernel, rfl⟩
theorem eX6_look_16 : eb_at mX6_look 16 19 (.if_icmp .gt 41) 3 := ⟨by decide +kernel, rfl⟩
theorem eX6_look_19 : eb_at mX6_look 19 20 (.aload_n 0) 1 := ⟨by decide +kernel, rfl⟩
theorem eX6_look_20 : eb_at mX6_look 20 22 (.iload 5) 2 := ⟨by decide +kernel, rfl⟩
theorem eX6_look_22 : eb_cv mX6_look 22 25 mX6_fittingThatBegin 1 := ⟨57, (RX6, TX6, 6), by decide +kernel, rfl, wd_491, wd_493, wd_13, by decide, rfl, rfl, okX6_fittingThatBegin⟩
theorem eX6_look_25 : eb_at mX6_look 25 27 (.istore 6) 2 := ⟨by decide +kernel, rfl⟩
theorem eX6_look_27 : eb_at mX6_look 27 29 (.iload 6) 2 := ⟨by decide +kernel, rfl⟩
theorem eX6_look_29 : eb_at mX6_look 29 30 (.iload_n 2) 1 := ⟨by decide +kernel, rfl⟩
theorem eX6_look_30 : eb_at mX6_look 30 32 (.iload 6) 2 := ⟨by decide +kernel, rfl⟩
theorem eX6_look_32 : eb_at mX6_look 32 33 (.isub) 1 := ⟨by decide +kernel, rfl⟩
theorem eX6_look_33 : eb_cs mX6_look 33 36 mJ_max 2 := ⟨61, by decide +kernel, rfl, wd_495, wd_496, by decide, okJ_max⟩
theorem eX6_look_36 : eb_at mX6_look 36 38 (.istore 7) 2 := ⟨by decide +kernel, rfl⟩
theorem eX6_look_38 : eb_at mX6_look 38 40 (.iload 7) 2 := ⟨by decide +kernel, rfl⟩
theorem eX6_look_40 : eb_at mX6_look 40 41 (.iload_n 3) 1 := ⟨by decide +kernel, rfl⟩
theorem eX6_look_41 : eb_at mX6_look 41 44 (.if_icmp .ge 10) 3 := ⟨by decide +kernel, rfl⟩
theorem eX6_look_44 : eb_at mX6_look 44 46 (.iload 7) 2 := ⟨by decide +kernel, rfl⟩
theorem eX6_look_46 : eb_at mX6_look 46 47 (.istore_n 3) 1 := ⟨by decide +kernel, rfl⟩
theorem eX6_look_47 : eb_at mX6_look 47 49 (.iload 5) 2 := ⟨by decide +kernel, rfl⟩
theorem eX6_look_49 : eb_at mX6_look 49 51 (.istore 4) 2 := ⟨by decide +kernel, rfl⟩
theorem eX6_look_51 : eb_at mX6_look 51 54 (.iinc 5 1) 3 := ⟨by decide +kernel, rfl⟩
theorem eX6_look_54 : eb_at mX6_look 54 57 (.goto (-41)) 3 := ⟨by decide +kernel, rfl⟩
theorem eX6_look_57 : eb_at mX6_look 57 59 (.iload 4) 2 := ⟨by decide +kernel, rfl⟩
theorem eX6_look_59 : eb_at mX6_look 59 60 (.ireturn) 1 := ⟨by decide +kernel, rfl⟩
theorem eX6_note_0 : eb_at mX6_note 0 1 (.aload_n 0) 1 := ⟨by decide +kernel, rfl⟩
theorem eX6_note_1 : eb_gf mX6_note 1 4 5 3 := ⟨23, (RX6, TX6, 6), by decide +kernel, rfl, rfl, by decide, wd_254⟩
theorem eX6_note_4 : eb_at mX6_note 4 6 (.bipush 6) 2 := ⟨by decide +kernel, rfl⟩
theorem eX6_note_6 : eb_at mX6_note 6 9 (.if_icmp .lt 6) 3 := ⟨by decide +kernel, rfl⟩
theorem eX6_note_9 : eb_at mX6_note 9 11 (.ldc 49) 2 := ⟨by decide +kernel, rfl⟩
theorem eX6_note_11 : eb_at mX6_note 11 12 (.ireturn) 1 := ⟨by decide +kernel, rfl⟩
theorem eX6_note_12 : eb_at mX6_note 12 13 (.iload_n 2) 1 := ⟨by decide +kernel, rfl⟩
theorem eX6_note_13 : eb_at mX6_note 13 16 (.ifCond .eq 18) 3 := ⟨by decide +kernel, rfl⟩
theorem eX6_note_16 : eb_at mX6_note 16 17 (.aload_n 0) 1 := ⟨by decide +kernel, rfl⟩
theorem eX6_note_17 : eb_at mX6_note 17 18 (.dup) 1 := ⟨by decide +kernel, rfl⟩
theorem eX6_note_18 : eb_gf mX6_note 18 21 5 4 := ⟨27, (RX6, TX6, 6), by decide +kernel, rfl, rfl, by decide, wd_256⟩
theorem eX6_note_21 : eb_at mX6_note 21 22 (.lconst 1) 1 := ⟨by decide +kernel, rfl⟩
theorem eX6_note_22 : eb_at mX6_note 22 23 (.iload_n 1) 1 := ⟨by decide +kernel, rfl⟩
theorem eX6_note_23 : eb_at mX6_note 23 24 (.lshl) 1 := ⟨by decide +kernel, rfl⟩
theorem eX6_note_24 : eb_at mX6_note 24 25 (.lor) 1 := ⟨by decide +kernel, rfl⟩
theorem eX6_note_25 : eb_pf mX6_note 25 28 5 4 false .long := ⟨27, (RX6, TX6, 6), by decide +kernel, rfl, rfl, by decide, wd_256, rfl, by decide +kernel, fun h => absurd h (by decide)⟩
theorem eX6_note_28 : eb_at mX6_note 28 31 (.goto 15) 3 := ⟨by decide +kernel, rfl⟩
theorem eX6_note_31 : eb_at mX6_note 31 32 (.aload_n 0) 1 := ⟨by decide +kernel, rfl⟩
theorem eX6_note_32 : eb_at mX6_note 32 33 (.dup) 1 := ⟨by decide +kernel, rfl⟩
theorem eX6_note_33 : eb_gf mX6_note 33 36 5 5 := ⟨31, (RX6, TX6, 6), by decide +kernel, rfl, rfl, by decide, wd_257⟩
theorem eX6_note_36 : eb_at mX6_note 36 37 (.lconst 1) 1 := ⟨by decide +kernel, rfl⟩
theorem eX6_note_37 : eb_at mX6_note 37 38 (.iload_n 1) 1 := ⟨by decide +kernel, rfl⟩
theorem eX6_note_38 : eb_at mX6_note 38 39 (.lshl) 1 := ⟨by decide +kernel, rfl⟩
theorem eX6_note_39 : eb_at mX6_note 39 40 (.lor) 1 := ⟨by decide +kernel, rfl⟩
theorem eX6_note_40 : eb_pf mX6_note 40 43 5 5 false .long := ⟨31, (RX6, TX6, 6), by decide +kernel, rfl, rfl, by decide, wd_257, rfl, by decide +kernel, fun h => absurd h (by decide)⟩
theorem eX6_note_43 : eb_at mX6_note 43 44 (.aload_n 0) 1 := ⟨by decide +kernel, rfl⟩
theorem eX6_note_44 : eb_at mX6_note 44 45 (.dup) 1 := ⟨by decide +kernel, rfl⟩
theorem eX6_note_45 : eb_gf mX6_note 45 48 5 3 := ⟨23, (RX6, TX6, 6), by decide +kernel, rfl, rfl, by decide, wd_254⟩
theorem eX6_note_48 : eb_at mX6_note 48 49 (.iconst 1) 1 := ⟨by decide +kernel, rfl⟩
theorem eX6_note_49 : eb_at mX6_note 49 50 (.iadd) 1 := ⟨by decide +kernel, rfl⟩
theorem eX6_note_50 : eb_pf mX6_note 50 53 5 3 false .int := ⟨23, (RX6, TX6, 6), by decide +kernel, rfl, rfl, by decide, wd_254, rfl, by decide +kernel, fun h => absurd h (by decide)⟩
theorem eX6_note_53 : eb_at mX6_note 53 54 (.aload_n 0) 1 := ⟨by decide +kernel, rfl⟩
theorem eX6_note_54 : eb_gf mX6_note 54 57 5 3 := ⟨23, (RX6, TX6, 6), by decide +kernel, rfl, rfl, by decide, wd_254⟩
theorem eX6_note_57 : eb_at mX6_note 57 58 (.ireturn) 1 := ⟨by decide +kernel, rfl⟩
end
section
theorem eX7_become_0 : eb_at mX7_become 0 1 (.aload_n 0) 1 := ⟨by decide +kernel, rfl⟩
theorem eX7_become_1 : eb_at mX7_become 1 2 (.aload_n 1) 1 := ⟨by decide +kernel, rfl⟩
theorem eX7_become_2 : eb_gf mX7_become 2 5 6 0 := ⟨9, (RX7, TX7, 6), by decide +kernel, rfl, rfl, by decide, wd_79⟩
theorem eX7_become_5 : eb_at mX7_become 5 6 (.aload_n 1) 1 := ⟨by decide +kernel, rfl⟩
theorem eX7_become_6 : eb_gf mX7_become 6 9 6 1 := ⟨15, (RX7, TX7, 6), by decide +kernel, rfl, rfl, by decide, wd_82⟩
theorem eX7_become_9 : eb_cv mX7_become 9 12 mX7_setWords 2 := ⟨32, (RX7, TX7, 6), by decide +kernel, rfl, wd_409, wd_410, wd_411, by decide, rfl, rfl, okX7_setWords⟩
theorem eX7_become_12 : eb_at mX7_become 12 13 (.aload_n 0) 1 := ⟨by decide +kernel, rfl⟩
theorem eX7_become_13 : eb_at mX7_become 13 14 (.aload_n 1) 1 := ⟨by decide +kernel, rfl⟩
theorem eX7_become_14 : eb_gf mX7_become 14 17 6 2 := ⟨19, (RX7, TX7, 6), by decide +kernel, rfl, rfl, by decide, wd_85⟩
theorem eX7_become_17 : eb_pf mX7_become 17 20 6 2 false .int := ⟨19, (RX7, TX7, 6), by decide +kernel, rfl, rfl, by decide, wd_85, rfl, by decide +kernel, fun h => absurd h (by decide)⟩
theorem eX7_become_20 : eb_at mX7_become 20 21 (.aload_n 0) 1 := ⟨by decide +kernel, rfl⟩
theorem eX7_become_21 : eb_at mX7_become 21 22 (.aload_n 1) 1 := ⟨by decide +kernel, rfl⟩
theorem eX7_become_22 : eb_gf mX7_become 22 25 6 3 := ⟨22, (RX7, TX7, 6), by decide +kernel, rfl, rfl, by decide, wd_88⟩
theorem eX7_become_25 : eb_pf mX7_become 25 28 6 3 false .int := ⟨22, (RX7, TX7, 6), by decide +kernel, rfl, rfl, by decide, wd_88, rfl, by decide +kernel, fun h => absurd h (by decide)⟩
theorem eX7_become_28 : eb_at mX7_become 28 29 (.aload_n 0) 1 := ⟨by decide +kernel, rfl⟩
theorem eX7_become_29 : eb_at mX7_become 29 30 (.aload_n 1) 1 := ⟨by decide +kernel, rfl⟩
theorem eX7_become_30 : eb_gf mX7_become 30 33 6 4 := ⟨25, (RX7, TX7, 6), by decide +kernel, rfl, rfl, by decide, wd_91⟩
theorem eX7_become_33 : eb_pf mX7_become 33 36 6 4 false .int := ⟨25, (RX7, TX7, 6), by decide +kernel, rfl, rfl, by decide, wd_91, rfl, by decide +kernel, fun h => absurd h (by decide)⟩
theorem eX7_become_36 : eb_at mX7_become 36 37 (.aload_n 0) 1 := ⟨by decide +kernel, rfl⟩
theorem eX7_become_37 : eb_at mX7_become 37 38 (.aload_n 1) 1 := ⟨by decide +kernel, rfl⟩
theorem eX7_become_38 : eb_gf mX7_become 38 41 6 5 := ⟨28, (RX7, TX7, 6), by decide +kernel, rfl, rfl, by decide, wd_94⟩
theorem eX7_become_41 : eb_pf mX7_become 41 44 6 5 false .boolean := ⟨28, (RX7, TX7, 6), by decide +kernel, rfl, rfl, by decide, wd_94, rfl, by decide +kernel, fun h => absurd h (by decide)⟩
theorem eX7_become_44 : eb_at mX7_become 44 45 (.return_) 1 := ⟨by decide +kernel, rfl⟩
theorem eX7_hasEnd_0 : eb_at mX7_hasEnd 0 1 (.iload_n 1) 1 := ⟨by decide +kernel, rfl⟩
theorem eX7_hasEnd_1 : eb_at mX7_hasEnd 1 4 (.ifCond .lt 15) 3 := ⟨by decide +kernel, rfl⟩
theorem eX7_hasEnd_4 : eb_at mX7_hasEnd 4 5 (.iload_n 1) 1 := ⟨by decide +kernel, rfl⟩
theorem eX7_hasEnd_5 : eb_at mX7_hasEnd 5 6 (.aload_n 0) 1 := ⟨by decide +kernel, rfl⟩
theorem eX7_hasEnd_6 : eb_gf mX7_hasEnd 6 9 6 1 := ⟨15, (RX7, TX7, 6), by decide +kernel, rfl, rfl, by decide, wd_82⟩
theorem eX7_hasEnd_9 : eb_at mX7_hasEnd 9 12 (.if_icmp .gt 7) 3 := ⟨by decide +kernel, rfl⟩
theorem eX7_hasEnd_12 : eb_at mX7_hasEnd 12 13 (.iconst 1) 1 := ⟨by decide +kernel, rfl⟩
theorem eX7_hasEnd_13 : eb_at mX7_hasEnd 13 16 (.goto 4) 3 := ⟨by decide +kernel, rfl⟩
theorem eX7_hasEnd_16 : eb_at mX7_hasEnd 16 17 (.iconst 0) 1 := ⟨by decide +kernel, rfl⟩
theorem eX7_hasEnd_17 : eb_at mX7_hasEnd 17 18 (.ireturn) 1 := ⟨by decide +kernel, rfl⟩
theorem eX7_hasWord_0 : eb_at mX7_hasWord 0 1 (.iload_n 1) 1 := ⟨by decide +kernel, rfl⟩
theorem eX7_hasWord_1 : eb_at mX7_hasWord 1 4 (.ifCond .lt 15) 3 := ⟨by decide +kernel, rfl⟩
theorem eX7_hasWord_4 : eb_at mX7_hasWord 4 5 (.iload_n 1) 1 := ⟨by decide +kernel, rfl⟩
theorem eX7_hasWord_5 : eb_at mX7_hasWord 5 6 (.aload_n 0) 1 := ⟨by decide +kernel, rfl⟩
theorem eX7_hasWord_6 : eb_gf mX7_hasWord 6 9 6 1 := ⟨15, (RX7, TX7, 6), by decide +kernel, rfl, rfl, by decide, wd_82⟩
theorem eX7_hasWord_9 : eb_at mX7_hasWord 9 12 (.if_icmp .ge 7) 3 := ⟨by decide +kernel, rfl⟩
theorem eX7_hasWord_12 : eb_at mX7_hasWord 12 13 (.iconst 1) 1 := ⟨by decide +kernel, rfl⟩
theorem eX7_hasWord_13 : eb_at mX7_hasWord 13 16 (.goto 4) 3 := ⟨by decide +kernel, rfl⟩
theorem eX7_hasWord_16 : eb_at mX7_hasWord 16 17 (.iconst 0) 1 := ⟨by decide +kernel, rfl⟩
theorem eX7_hasWord_17 : eb_at mX7_hasWord 17 18 (.ireturn) 1 := ⟨by decide +kernel, rfl⟩
theorem eX7_init_0 : eb_at mX7_init 0 1 (.aload_n 0) 1 := ⟨by decide +kernel, rfl⟩
theorem eX7_init_1 : eb_at mX7_init 1 4 (.invokespecial 3) 3 := ⟨by decide +kernel, rfl⟩
theorem eX7_init_4 : eb_at mX7_init 4 5 (.aload_n 0) 1 := ⟨by decide +kernel, rfl⟩
theorem eX7_init_5 : eb_at mX7_init 5 7 (.bipush 40) 2 := ⟨by decide +kernel, rfl⟩
theorem eX7_init_7 : eb_at mX7_init 7 9 (.newarray .long) 2 := ⟨by decide +kernel, rfl⟩
theorem eX7_init_9 : eb_pf mX7_init 9 12 6 0 true (.array .long) := ⟨9, (RX7, TX7, 6), by decide +kernel, rfl, rfl, by decide, wd_79, rfl, by decide +kernel, fun _ => ⟨rfl, rfl⟩⟩
theorem eX7_init_12 : eb_at mX7_init 12 13 (.aload_n 0) 1 := ⟨by decide +kernel, rfl⟩
theorem eX7_init_13 : eb_at mX7_init 13 14 (.iconst 0) 1 := ⟨by decide +kernel, rfl⟩
theorem eX7_init_14 : eb_pf mX7_init 14 17 6 1 false .int := ⟨15, (RX7, TX7, 6), by decide +kernel, rfl, rfl, by decide, wd_82, rfl, by decide +kernel, fun h => absurd h (by decide)⟩
theorem eX7_init_17 : eb_at mX7_init 17 18 (.aload_n 0) 1 := ⟨by decide +kernel, rfl⟩
theorem eX7_init_18 : eb_at mX7_init 18 20 (.bipush 30) 2 := ⟨by decide +kernel, rfl⟩
theorem eX7_init_20 : eb_pf mX7_init 20 23 6 2 false .int := ⟨19, (RX7, TX7, 6), by decide +kernel, rfl, rfl, by decide, wd_85, rfl, by decide +kernel, fun h => absurd h (by decide)⟩
theorem eX7_init_23 : eb_at mX7_init 23 24 (.aload_n 0) 1 := ⟨by decide +kernel, rfl⟩
theorem eX7_init_24 : eb_at mX7_init 24 25 (.iconst 0) 1 := ⟨by decide +kernel, rfl⟩
theorem eX7_init_25 : eb_pf mX7_init 25 28 6 3 false .int := ⟨22, (RX7, TX7, 6), by decide +kernel, rfl, rfl, by decide, wd_88, rfl, by decide +kernel, fun h => absurd h (by decide)⟩
theorem eX7_init_28 : eb_at mX7_init 28 29 (.aload_n 0) 1 := ⟨by decide +kernel, rfl⟩
theorem eX7_init_29 : eb_at mX7_init 29 30 (.iconst 0) 1 := ⟨by decide +kernel, rfl⟩
theorem eX7_init_30 : eb_pf mX7_init 30 33 6 4 false .int := ⟨25, (RX7, TX7, 6), by decide +kernel, rfl, rfl, by decide, wd_91, rfl, by decide +kernel, fun h => absurd h (by decide)⟩
theorem eX7_init_33 : eb_at mX7_init 33 34 (.aload_n 0) 1 := ⟨by decide +kernel, rfl⟩
theorem eX7_init_34 : eb_at mX7_init 34 35 (.iconst 0) 1 := ⟨by decide +kernel, rfl⟩
theorem eX7_init_35 : eb_pf mX7_init 35 38 6 5 false .boolean := ⟨28, (RX7, TX7, 6), by decide +kernel, rfl, rfl, by decide, wd_94, rfl, by decide +kernel, fun h => absurd h (by decide)⟩
theorem eX7_init_38 : eb_at mX7_init 38 39 (.return_) 1 := ⟨by decide +kernel, rfl⟩
theorem eX7_putIn_0 : eb_at mX7_putIn 0 1 (.aload_n 0) 1 := ⟨by decide +kernel, rfl⟩
theorem eX7_putIn_1 : eb_gf mX7_putIn 1 4 6 1 := ⟨15, (RX7, TX7, 6), by decide +kernel, rfl, rfl, by decide, wd_82⟩
theorem eX7_putIn_4 : eb_at mX7_putIn 4 6 (.bipush 40) 2 := ⟨by decide +kernel, rfl⟩
theorem eX7_putIn_6 : eb_at mX7_putIn 6 9 (.if_icmp .ge 11) 3 := ⟨by decide +kernel, rfl⟩
theorem eX7_putIn_9 : eb_at mX7_putIn 9 10 (.aload_n 0) 1 := ⟨by decide +kernel, rfl⟩
theorem eX7_putIn_10 : eb_at mX7_putIn 10 11 (.iload_n 1) 1 := ⟨by decide +kernel, rfl⟩
theorem eX7_putIn_11 : eb_cv mX7_putIn 11 14 mX7_hasEnd 1 := ⟨42, (RX7, TX7, 6), by decide +kernel, rfl, wd_569, wd_532, wd_533, by decide, rfl, rfl, okX7_hasEnd⟩
theorem eX7_putIn_14 : eb_at mX7_putIn 14 17 (.ifCond .ne 4) 3 := ⟨by decide +kernel, rfl⟩
theorem eX7_putIn_17 : eb_at mX7_putIn 17 18 (.return_) 1 := ⟨by decide +kernel, rfl⟩
theorem eX7_putIn_18 : eb_at mX7_putIn 18 19 (.aload_n 0) 1 := ⟨by decide +kernel, rfl⟩
theorem eX7_putIn_19 : eb_gf mX7_putIn 19 22 6 1 := ⟨15, (RX7, TX7, 6), by decide +kernel, rfl, rfl, by decide, wd_82⟩
theorem eX7_putIn_22 : eb_at mX7_putIn 22 24 (.istore 4) 2 := ⟨by decide +kernel, rfl⟩
theorem eX7_putIn_24 : eb_at mX7_putIn 24 26 (.iload 4) 2 := ⟨by decide +kernel, rfl⟩
theorem eX7_putIn_26 : eb_at mX7_putIn 26 27 (.iload_n 1) 1 := ⟨by decide +kernel, rfl⟩
theorem eX7_putIn_27 : eb_at mX7_putIn 27 30 (.if_icmp .le 25) 3 := ⟨by decide +kernel, rfl⟩
theorem eX7_putIn_30 : eb_at mX7_putIn 30 31 (.aload_n 0) 1 := ⟨by decide +kernel, rfl⟩
theorem eX7_putIn_31 : eb_gf mX7_putIn 31 34 6 0 := ⟨9, (RX7, TX7, 6), by decide +kernel, rfl, rfl, by decide, wd_79⟩
theorem eX7_putIn_34 : eb_at mX7_putIn 34 36 (.iload 4) 2 := ⟨by decide +kernel, rfl⟩
theorem eX7_putIn_36 : eb_at mX7_putIn 36 37 (.aload_n 0) 1 := ⟨by decide +kernel, rfl⟩
theorem eX7_putIn_37 : eb_gf mX7_putIn 37 40 6 0 := ⟨9, (RX7, TX7, 6), by decide +kernel, rfl, rfl, by decide, wd_79⟩
theorem eX7_putIn_40 : eb_at mX7_putIn 40 42 (.iload 4) 2 := ⟨by decide +kernel, rfl⟩
theorem eX7_putIn_42 : eb_at mX7_putIn 42 43 (.iconst 1) 1 := ⟨by decide +kernel, rfl⟩
theorem eX7_putIn_43 : eb_at mX7_putIn 43 44 (.isub) 1 := ⟨by decide +kernel, rfl⟩
theorem eX7_putIn_44 : eb_at mX7_putIn 44 45 (.laload) 1 := ⟨by decide +kernel, rfl⟩
theorem eX7_putIn_45 : eb_at mX7_putIn 45 46 (.lastore) 1 := ⟨by decide +kernel, rfl⟩
theorem eX7_putIn_46 : eb_at mX7_putIn 46 49 (.iinc 4 (-1)) 3 := ⟨by decide +kernel, rfl⟩
theorem eX7_putIn_49 : eb_at mX7_putIn 49 52 (.goto (-25)) 3 := ⟨by decide +kernel, rfl⟩
theorem eX7_putIn_52 : eb_at mX7_putIn 52 53 (.aload_n 0) 1 := ⟨by decide +kernel, rfl⟩
theorem eX7_putIn_53 : eb_gf mX7_putIn 53 56 6 0 := ⟨9, (RX7, TX7, 6), by decide +kernel, rfl, rfl, by decide, wd_79⟩
theorem eX7_putIn_56 : eb_at mX7_putIn 56 57 (.iload_n 1) 1 := ⟨by decide +kernel, rfl⟩
theorem eX7_putIn_57 : eb_at mX7_putIn 57 58 (.lload_n 2) 1 := ⟨by decide +kernel, rfl⟩
theorem eX7_putIn_58 : eb_at mX7_putIn 58 59 (.lastore) 1 := ⟨by decide +kernel, rfl⟩
theorem eX7_putIn_59 : eb_at mX7_putIn 59 60 (.aload_n 0) 1 := ⟨by decide +kernel, rfl⟩
theorem eX7_putIn_60 : eb_at mX7_putIn 60 61 (.dup) 1 := ⟨by decide +kernel, rfl⟩
theorem eX7_putIn_61 : eb_gf mX7_putIn 61 64 6 1 := ⟨15, (RX7, TX7, 6), by decide +kernel, rfl, rfl, by decide, wd_82⟩
theorem eX7_putIn_64 : eb_at mX7_putIn 64 65 (.iconst 1) 1 := ⟨by decide +kernel, rfl⟩
theorem eX7_putIn_65 : eb_at mX7_putIn 65 66 (.iadd) 1 := ⟨by decide +kernel, rfl⟩
theorem eX7_putIn_66 : eb_pf mX7_putIn 66 69 6 1 false .int := ⟨15, (RX7, TX7, 6), by decide +kernel, rfl, rfl, by decide, wd_82, rfl, by decide +kernel, fun h => absurd h (by decide)⟩
theorem eX7_putIn_69 : eb_at mX7_putIn 69 70 (.return_) 1 := ⟨by decide +kernel, rfl⟩
theorem eX7_setWords_0 : eb_at mX7_setWords 0 1 (.aload_n 1) 1 := ⟨by decide +kernel, rfl⟩
theorem eX7_setWords_1 : eb_at mX7_setWords 1 2 (.iconst 0) 1 := ⟨by decide +kernel, rfl⟩
theorem eX7_setWords_2 : eb_at mX7_setWords 2 3 (.aload_n 0) 1 := ⟨by decide +kernel, rfl⟩
theorem eX7_setWords_3 : eb_gf mX7_setWords 3 6 6 0 := ⟨9, (RX7, TX7, 6), by decide +kernel, rfl, rfl, by decide, wd_79⟩
theorem eX7_setWords_6 : eb_at mX7_setWords 6 7 (.iconst 0) 1 := ⟨by decide +kernel, rfl⟩
theorem eX7_setWords_7 : eb_at mX7_setWords 7 8 (.iload_n 2) 1 := ⟨by decide +kernel, rfl⟩
theorem eX7_setWords_8 : eb_at mX7_setWords 8 11 (.invokestatic 36) 3 := ⟨by decide +kernel, rfl⟩
theorem eX7_setWords_11 : eb_at mX7_setWords 11 12 (.aload_n 0) 1 := ⟨by decide +kernel, rfl⟩
theorem eX7_setWords_12 : eb_at mX7_setWords 12 13 (.iload_n 2) 1 := ⟨by decide +kernel, rfl⟩
theorem eX7_setWords_13 : eb_pf mX7_setWords 13 16 6 1 false .int := ⟨15, (RX7, TX7, 6), by decide +kernel, rfl, rfl, by decide, wd_82, rfl, by decide +kernel, fun h => absurd h (by decide)⟩
theorem eX7_setWords_16 : eb_at mX7_setWords 16 17 (.return_) 1 := ⟨by decide +kernel, rfl⟩
theorem eX7_takeOut_0 : eb_at mX7_takeOut 0 1 (.aload_n 0) 1 := ⟨by decide +kernel, rfl⟩
theorem eX7_takeOut_1 : eb_at mX7_takeOut 1 2 (.iload_n 1) 1 := ⟨by decide +kernel, rfl⟩
theorem eX7_takeOut_2 : eb_cv mX7_takeOut 2 5 mX7_hasWord 1 := ⟨46, (RX7, TX7, 6), by decide +kernel, rfl, wd_578, wd_508, wd_509, by decide, rfl, rfl, okX7_hasWord⟩
theorem eX7_takeOut_5 : eb_at mX7_takeOut 5 8 (.ifCond .ne 4) 3 := ⟨by decide +kernel, rfl⟩
theorem eX7_takeOut_8 : eb_at mX7_takeOut 8 9 (.return_) 1 := ⟨by decide +kernel, rfl⟩
theorem eX7_takeOut_9 : eb_at mX7_takeOut 9 10 (.iload_n 1) 1 := ⟨by decide +kernel, rfl⟩
theorem eX7_takeOut_10 : eb_at mX7_takeOut 10 11 (.iconst 1) 1 := ⟨by decide +kernel, rfl⟩
theorem eX7_takeOut_11 : eb_at mX7_takeOut 11 12 (.iadd) 1 := ⟨by decide +kernel, rfl⟩
theorem eX7_takeOut_12 : eb_at mX7_takeOut 12 13 (.istore_n 2) 1 := ⟨by decide +kernel, rfl⟩
theorem eX7_takeOut_13 : eb_at mX7_takeOut 13 14 (.iload_n 2) 1 := ⟨by decide +kernel, rfl⟩
theorem eX7_takeOut_14 : eb_at mX7_takeOut 14 15 (.aload_n 0) 1 := ⟨by decide +kernel, rfl⟩
theorem eX7_takeOut_15 : eb_gf mX7_takeOut 15 18 6 1 := ⟨15, (RX7, TX7, 6), by decide +kernel, rfl, rfl, by decide, wd_82⟩
theorem eX7_takeOut_18 : eb_at mX7_takeOut 18 21 (.if_icmp .ge 23) 3 := ⟨by decide +kernel, rfl⟩
theorem eX7_takeOut_21 : eb_at mX7_takeOut 21 22 (.aload_n 0) 1 := ⟨by decide +kernel, rfl⟩
theorem eX7_takeOut_22 : eb_gf mX7_takeOut 22 25 6 0 := ⟨9, (RX7, TX7, 6), by decide +kernel, rfl, rfl, by decide, wd_79⟩
theorem eX7_takeOut_25 : eb_at mX7_takeOut 25 26 (.iload_n 2) 1 := ⟨by decide +kernel, rfl⟩
theorem eX7_takeOut_26 : eb_at mX7_takeOut 26 27 (.iconst 1) 1 := ⟨by decide +kernel, rfl⟩
theorem eX7_takeOut_27 : eb_at mX7_takeOut 27 28 (.isub) 1 := ⟨by decide +kernel, rfl⟩
theorem eX7_takeOut_28 : eb_at mX7_takeOut 28 29 (.aload_n 0) 1 := ⟨by decide +kernel, rfl⟩
theorem eX7_takeOut_29 : eb_gf mX7_takeOut 29 32 6 0 := ⟨9, (RX7, TX7, 6), by decide +kernel, rfl, rfl, by decide, wd_79⟩
theorem eX7_takeOut_32 : eb_at mX7_takeOut 32 33 (.iload_n 2) 1 := ⟨by decide +kernel, rfl⟩
theorem eX7_takeOut_33 : eb_at mX7_takeOut 33 34 (.laload) 1 := ⟨by decide +kernel, rfl⟩
theorem eX7_takeOut_34 : eb_at mX7_takeOut 34 35 (.lastore) 1 := ⟨by decide +kernel, rfl⟩
theorem eX7_takeOut_35 : eb_at mX7_takeOut 35 38 (.iinc 2 1) 3 := ⟨by decide +kernel, rfl⟩
theorem eX7_takeOut_38 : eb_at mX7_takeOut 38 41 (.goto (-25)) 3 := ⟨by decide +kernel, rfl⟩
theorem eX7_takeOut_41 : eb_at mX7_takeOut 41 42 (.aload_n 0) 1 := ⟨by decide +kernel, rfl⟩
theorem eX7_takeOut_42 : eb_at mX7_takeOut 42 43 (.dup) 1 := ⟨by decide +kernel, rfl⟩
theorem eX7_takeOut_43 : eb_gf mX7_takeOut 43 46 6 1 := ⟨15, (RX7, TX7, 6), by decide +kernel, rfl, rfl, by decide, wd_82⟩
theorem eX7_takeOut_46 : eb_at mX7_takeOut 46 47 (.iconst 1) 1 := ⟨by decide +kernel, rfl⟩
theorem eX7_takeOut_47 : eb_at mX7_takeOut 47 48 (.isub) 1 := ⟨by decide +kernel, rfl⟩
theorem eX7_takeOut_48 : eb_pf mX7_takeOut 48 51 6 1 false .int := ⟨15, (RX7, TX7, 6), by decide +kernel, rfl, rfl, by decide, wd_82, rfl, by decide +kernel, fun h => absurd h (by decide)⟩
theorem eX7_takeOut_51 : eb_at mX7_takeOut 51 52 (.return_) 1 := ⟨by decide +kernel, rfl⟩
end
section
theorem eX8_add_0 : eb_at mX8_add 0 1 (.aload_n 0) 1 := ⟨by decide +kernel, rfl⟩
theorem eX8_add_1 : eb_gf mX8_add 1 4 7 2 := ⟨19, (RX8, TX8, 5), by decide +kernel, rfl, rfl, by decide, wd_120⟩
theorem eX8_add_4 : eb_at mX8_add 4 7 (.sipush 240) 3 := ⟨by decide +kernel, rfl⟩
theorem eX8_add_7 : eb_at mX8_add 7 10 (.if_icmp .lt 6) 3 := ⟨by decide +kernel, rfl⟩
theorem eX8_add_10 : eb_at mX8_add 10 12 (.ldc 29) 2 := ⟨by decide +kernel, rfl⟩
theorem eX8_add_12 : eb_at mX8_add 12 13 (.ireturn) 1 := ⟨by decide +kernel, rfl⟩
theorem eX8_add_13 : eb_at mX8_add 13 14 (.aload_n 0) 1 := ⟨by decide +kernel, rfl⟩
theorem eX8_add_14 : eb_gf mX8_add 14 17 7 0 := ⟨9, (RX8, TX8, 5), by decide +kernel, rfl, rfl, by decide, wd_117⟩
theorem eX8_add_17 : eb_at mX8_add 17 18 (.aload_n 0) 1 := ⟨by decide +kernel, rfl⟩
theorem eX8_add_18 : eb_gf mX8_add 18 21 7 2 := ⟨19, (RX8, TX8, 5), by decide +kernel, rfl, rfl, by decide, wd_120⟩
theorem eX8_add_21 : eb_at mX8_add 21 22 (.iload_n 1) 1 := ⟨by decide +kernel, rfl⟩
theorem eX8_add_22 : eb_at mX8_add 22 23 (.iastore) 1 := ⟨by decide +kernel, rfl⟩
theorem eX8_add_23 : eb_at mX8_add 23 24 (.aload_n 0) 1 := ⟨by decide +kernel, rfl⟩
theorem eX8_add_24 : eb_at mX8_add 24 25 (.dup) 1 := ⟨by decide +kernel, rfl⟩
theorem eX8_add_25 : eb_gf mX8_add 25 28 7 2 := ⟨19, (RX8, TX8, 5), by decide +kernel, rfl, rfl, by decide, wd_120⟩
theorem eX8_add_28 : eb_at mX8_add 28 29 (.iconst 1) 1 := ⟨by decide +kernel, rfl⟩
theorem eX8_add_29 : eb_at mX8_add 29 30 (.iadd) 1 := ⟨by decide +kernel, rfl⟩
theorem eX8_add_30 : eb_pf mX8_add 30 33 7 2 false .int := ⟨19, (RX8, TX8, 5), by decide +kernel, rfl, rfl, by decide, wd_120, rfl, by decide +kernel, fun h => absurd h (by decide)⟩
theorem eX8_add_33 : eb_at mX8_add 33 34 (.aload_n 0) 1 := ⟨by decide +kernel, rfl⟩
theorem eX8_add_34 : eb_gf mX8_add 34 37 7 2 := ⟨19, (RX8, TX8, 5), by decide +kernel, rfl, rfl, by decide, wd_120⟩
theorem eX8_add_37 : eb_at mX8_add 37 38 (.ireturn) 1 := ⟨by decide +kernel, rfl⟩
theorem eX8_addToWord_0 : eb_at mX8_addToWord 0 1 (.iload_n 2) 1 := ⟨by decide +kernel, rfl⟩
theorem eX8_addToWord_1 : eb_at mX8_addToWord 1 4 (.ifCond .ne 23) 3 := ⟨by decide +kernel, rfl⟩
theorem eX8_addToWord_4 : eb_at mX8_addToWord 4 5 (.aload_n 0) 1 := ⟨by decide +kernel, rfl⟩
theorem eX8_addToWord_5 : eb_gf mX8_addToWord 5 8 7 1 := ⟨15, (RX8, TX8, 5), by decide +kernel, rfl, rfl, by decide, wd_118⟩
theorem eX8_addToWord_8 : eb_at mX8_addToWord 8 9 (.aload_n 0) 1 := ⟨by decide +kernel, rfl⟩
theorem eX8_addToWord_9 : eb_gf mX8_addToWord 9 12 7 3 := ⟨23, (RX8, TX8, 5), by decide +kernel, rfl, rfl, by decide, wd_122⟩
theorem eX8_addToWord_12 : eb_at mX8_addToWord 12 13 (.lconst 0) 1 := ⟨by decide +kernel, rfl⟩
theorem eX8_addToWord_13 : eb_at mX8_addToWord 13 14 (.lastore) 1 := ⟨by decide +kernel, rfl⟩
theorem eX8_addToWord_14 : eb_at mX8_addToWord 14 15 (.aload_n 0) 1 := ⟨by decide +kernel, rfl⟩
theorem eX8_addToWord_15 : eb_at mX8_addToWord 15 16 (.dup) 1 := ⟨by decide +kernel, rfl⟩
theorem eX8_addToWord_16 : eb_gf mX8_addToWord 16 19 7 3 := ⟨23, (RX8, TX8, 5), by decide +kernel, rfl, rfl, by decide, wd_122⟩
theorem eX8_addToWord_19 : eb_at mX8_addToWord 19 20 (.iconst 1) 1 := ⟨by decide +kernel, rfl⟩
theorem eX8_addToWord_20 : eb_at mX8_addToWord 20 21 (.iadd) 1 := ⟨by decide +kernel, rfl⟩
theorem eX8_addToWord_21 : eb_pf mX8_addToWord 21 24 7 3 false .int := ⟨23, (RX8, TX8, 5), by decide +kernel, rfl, rfl, by decide, wd_122, rfl, by decide +kernel, fun h => absurd h (by decide)⟩
theorem eX8_addToWord_24 : eb_at mX8_addToWord 24 25 (.aload_n 0) 1 := ⟨by decide +kernel, rfl⟩
theorem eX8_addToWord_25 : eb_gf mX8_addToWord 25 28 7 3 := ⟨23, (RX8, TX8, 5), by decide +kernel, rfl, rfl, by decide, wd_122⟩
theorem eX8_addToWord_28 : eb_at mX8_addToWord 28 29 (.iconst 1) 1 := ⟨by decide +kernel, rfl⟩
theorem eX8_addToWord_29 : eb_at mX8_addToWord 29 30 (.isub) 1 := ⟨by decide +kernel, rfl⟩
theorem eX8_addToWord_30 : eb_at mX8_addToWord 30 31 (.istore_n 3) 1 := ⟨by decide +kernel, rfl⟩
theorem eX8_addToWord_31 : eb_at mX8_addToWord 31 32 (.aload_n 0) 1 := ⟨by decide +kernel, rfl⟩
theorem eX8_addToWord_32 : eb_gf mX8_addToWord 32 35 7 1 := ⟨15, (RX8, TX8, 5), by decide +kernel, rfl, rfl, by decide, wd_118⟩
theorem eX8_addToWord_35 : eb_at mX8_addToWord 35 36 (.iload_n 3) 1 := ⟨by decide +kernel, rfl⟩
theorem eX8_addToWord_36 : eb_at mX8_addToWord 36 37 (.aload_n 0) 1 := ⟨by decide +kernel, rfl⟩
theorem eX8_addToWord_37 : eb_gf mX8_addToWord 37 40 7 1 := ⟨15, (RX8, TX8, 5), by decide +kernel, rfl, rfl, by decide, wd_118⟩
theorem eX8_addToWord_40 : eb_at mX8_addToWord 40 41 (.iload_n 3) 1 := ⟨by decide +kernel, rfl⟩
theorem eX8_addToWord_41 : eb_at mX8_addToWord 41 42 (.laload) 1 := ⟨by decide +kernel, rfl⟩
theorem eX8_addToWord_42 : eb_at mX8_addToWord 42 43 (.iload_n 2) 1 := ⟨by decide +kernel, rfl⟩
theorem eX8_addToWord_43 : eb_at mX8_addToWord 43 44 (.iload_n 1) 1 := ⟨by decide +kernel, rfl⟩
theorem eX8_addToWord_44 : eb_cs mX8_addToWord 44 47 mX5_withLetter 3 := ⟨38, by decide +kernel, rfl, wd_398, wd_399, by decide, okX5_withLetter⟩
theorem eX8_addToWord_47 : eb_at mX8_addToWord 47 48 (.lastore) 1 := ⟨by decide +kernel, rfl⟩
theorem eX8_addToWord_48 : eb_at mX8_addToWord 48 49 (.return_) 1 := ⟨by decide +kernel, rfl⟩
theorem eX8_faultOf_0 : eb_at mX8_faultOf 0 1 (.iload_n 1) 1 := ⟨by decide +kernel, rfl⟩
theorem eX8_faultOf_1 : eb_at mX8_faultOf 1 3 (.bipush 32) 2 := ⟨by decide +kernel, rfl⟩
theorem eX8_faultOf_3 : eb_at mX8_faultOf 3 6 (.if_icmp .ne 5) 3 := ⟨by decide +kernel, rfl⟩
theorem eX8_faultOf_6 : eb_at mX8_faultOf 6 7 (.iconst 0) 1 := ⟨by decide +kernel, rfl⟩
theorem eX8_faultOf_7 : eb_at mX8_faultOf 7 8 (.ireturn) 1 := ⟨by decide +kernel, rfl⟩
theorem eX8_faultOf_8 : eb_at mX8_faultOf 8 9 (.iload_n 1) 1 := ⟨by decide +kernel, rfl⟩
theorem eX8_faultOf_9 : eb_at mX8_faultOf 9 11 (.bipush 97) 2 := ⟨by decide +kernel, rfl⟩
theorem eX8_faultOf_11 : eb_at mX8_faultOf 11 14 (.if_icmp .lt 9) 3 := ⟨by decide +kernel, rfl⟩
theorem eX8_faultOf_14 : eb_at mX8_faultOf 14 15 (.iload_n 1) 1 := ⟨by decide +kernel, rfl⟩
theorem eX8_faultOf_15 : eb_at mX8_faultOf 15 17 (.bipush 122) 2 := ⟨by decide +kernel, rfl⟩
theorem eX8_faultOf_17 : eb_at mX8_faultOf 17 20 (.if_icmp .le 5) 3 := ⟨by decide +kernel, rfl⟩
theorem eX8_faultOf_20 : eb_at mX8_faultOf 20 21 (.iconst 1) 1 := ⟨by decide +kernel, rfl⟩
theorem eX8_faultOf_21 : eb_at mX8_faultOf 21 22 (.ireturn) 1 := ⟨by decide +kernel, rfl⟩
theorem eX8_faultOf_22 : eb_at mX8_faultOf 22 23 (.iload_n 2) 1 := ⟨by decide +kernel, rfl⟩
theorem eX8_faultOf_23 : eb_at mX8_faultOf 23 25 (.bipush 12) 2 := ⟨by decide +kernel, rfl⟩
theorem eX8_faultOf_25 : eb_at mX8_faultOf 25 28 (.if_icmp .lt 5) 3 := ⟨by decide +kernel, rfl⟩
theorem eX8_faultOf_28 : eb_at mX8_faultOf 28 29 (.iconst 2) 1 := ⟨by decide +kernel, rfl⟩
theorem eX8_faultOf_29 : eb_at mX8_faultOf 29 30 (.ireturn) 1 := ⟨by decide +kernel, rfl⟩
theorem eX8_faultOf_30 : eb_at mX8_faultOf 30 31 (.iload_n 2) 1 := ⟨by decide +kernel, rfl⟩
theorem eX8_faultOf_31 : eb_at mX8_faultOf 31 34 (.ifCond .ne 16) 3 := ⟨by decide +kernel, rfl⟩
theorem eX8_faultOf_34 : eb_at mX8_faultOf 34 35 (.aload_n 0) 1 := ⟨by decide +kernel, rfl⟩
theorem eX8_faultOf_35 : eb_gf mX8_faultOf 35 38 7 3 := ⟨23, (RX8, TX8, 5), by decide +kernel, rfl, rfl, by decide, wd_122⟩
theorem eX8_faultOf_38 : eb_at mX8_faultOf 38 40 (.bipush 40) 2 := ⟨by decide +kernel, rfl⟩
theorem eX8_faultOf_40 : eb_at mX8_faultOf 40 43 (.if_icmp .lt 7) 3 := ⟨by decide +kernel, rfl⟩
theorem eX8_faultOf_43 : eb_at mX8_faultOf 43 44 (.iconst 3) 1 := ⟨by decide +kernel, rfl⟩
theorem eX8_faultOf_44 : eb_at mX8_faultOf 44 47 (.goto 4) 3 := ⟨by decide +kernel, rfl⟩
theorem eX8_faultOf_47 : eb_at mX8_faultOf 47 48 (.iconst 0) 1 := ⟨by decide +kernel, rfl⟩
theorem eX8_faultOf_48 : eb_at mX8_faultOf 48 49 (.ireturn) 1 := ⟨by decide +kernel, rfl⟩
theorem eX8_init_0 : eb_at mX8_init 0 1 (.aload_n 0) 1 := ⟨by decide +kernel, rfl⟩
theorem eX8_init_1 : eb_at mX8_init 1 4 (.invokespecial 3) 3 := ⟨by decide +kernel, rfl⟩
theorem eX8_init_4 : eb_at mX8_init 4 5 (.aload_n 0) 1 := ⟨by decide +kernel, rfl⟩
theorem eX8_init_5 : eb_at mX8_init 5 8 (.sipush 240) 3 := ⟨by decide +kernel, rfl⟩
theorem eX8_init_8 : eb_at mX8_init 8 10 (.newarray .int) 2 := ⟨by decide +kernel, rfl⟩
theorem eX8_init_10 : eb_pf mX8_init 10 13 7 0 true (.array .int) := ⟨9, (RX8, TX8, 5), by decide +kernel, rfl, rfl, by decide, wd_117, rfl, by decide +kernel, fun _ => ⟨rfl, rfl⟩⟩
theorem eX8_init_13 : eb_at mX8_init 13 14 (.aload_n 0) 1 := ⟨by decide +kernel, rfl⟩
theorem eX8_init_14 : eb_at mX8_init 14 16 (.bipush 40) 2 := ⟨by decide +kernel, rfl⟩
theorem eX8_init_16 : eb_at mX8_init 16 18 (.newarray .long) 2 := ⟨by decide +kernel, rfl⟩
theorem eX8_init_18 : eb_pf mX8_init 18 21 7 1 true (.array .long) := ⟨15, (RX8, TX8, 5), by decide +kernel, rfl, rfl, by decide, wd_118, rfl, by decide +kernel, fun _ => ⟨rfl, rfl⟩⟩
theorem eX8_init_21 : eb_at mX8_init 21 22 (.aload_n 0) 1 := ⟨by decide +kernel, rfl⟩
theorem eX8_init_22 : eb_at mX8_init 22 23 (.iconst 0) 1 := ⟨by decide +kernel, rfl⟩
theorem eX8_init_23 : eb_pf mX8_init 23 26 7 2 false .int := ⟨19, (RX8, TX8, 5), by decide +kernel, rfl, rfl, by decide, wd_120, rfl, by decide +kernel, fun h => absurd h (by decide)⟩
theorem eX8_init_26 : eb_at mX8_init 26 27 (.aload_n 0) 1 := ⟨by decide +kernel, rfl⟩
theorem eX8_init_27 : eb_at mX8_init 27 28 (.iconst 0) 1 := ⟨by decide +kernel, rfl⟩
theorem eX8_init_28 : eb_pf mX8_init 28 31 7 3 false .int := ⟨23, (RX8, TX8, 5), by decide +kernel, rfl, rfl, by decide, wd_122, rfl, by decide +kernel, fun h => absurd h (by decide)⟩
theorem eX8_init_31 : eb_at mX8_init 31 32 (.aload_n 0) 1 := ⟨by decide +kernel, rfl⟩
theorem eX8_init_32 : eb_at mX8_init 32 33 (.iconst (-1)) 1 := ⟨by decide +kernel, rfl⟩
theorem eX8_init_33 : eb_pf mX8_init 33 36 7 4 false .int := ⟨26, (RX8, TX8, 5), by decide +kernel, rfl, rfl, by decide, wd_124, rfl, by decide +kernel, fun h => absurd h (by decide)⟩
theorem eX8_init_36 : eb_at mX8_init 36 37 (.return_) 1 := ⟨by decide +kernel, rfl⟩
theorem eX8_read_0 : eb_at mX8_read 0 1 (.aload_n 0) 1 := ⟨by decide +kernel, rfl⟩
theorem eX8_read_1 : eb_at mX8_read 1 2 (.iconst 0) 1 := ⟨by decide +kernel, rfl⟩
theorem eX8_read_2 : eb_pf mX8_read 2 5 7 3 false .int := ⟨23, (RX8, TX8, 5), by decide +kernel, rfl, rfl, by decide, wd_122, rfl, by decide +kernel, fun h => absurd h (by decide)⟩
theorem eX8_read_5 : eb_at mX8_read 5 6 (.aload_n 0) 1 := ⟨by decide +kernel, rfl⟩
theorem eX8_read_6 : eb_at mX8_read 6 7 (.iconst (-1)) 1 := ⟨by decide +kernel, rfl⟩
theorem eX8_read_7 : eb_pf mX8_read 7 10 7 4 false .int := ⟨26, (RX8, TX8, 5), by decide +kernel, rfl, rfl, by decide, wd_124, rfl, by decide +kernel, fun h => absurd h (by decide)⟩
theorem eX8_read_10 : eb_at mX8_read 10 11 (.iconst 0) 1 := ⟨by decide +kernel, rfl⟩
theorem eX8_read_11 : eb_at mX8_read 11 12 (.istore_n 1) 1 := ⟨by decide +kernel, rfl⟩
theorem eX8_read_12 : eb_at mX8_read 12 13 (.iconst 0) 1 := ⟨by decide +kernel, rfl⟩
theorem eX8_read_13 : eb_at mX8_read 13 14 (.istore_n 2) 1 := ⟨by decide +kernel, rfl⟩
theorem eX8_read_14 : eb_at mX8_read 14 15 (.iconst 0) 1 := ⟨by decide +kernel, rfl⟩
theorem eX8_read_15 : eb_at mX8_read 15 16 (.istore_n 3) 1 := ⟨by decide +kernel, rfl⟩
theorem eX8_read_16 : eb_at mX8_read 16 17 (.iload_n 3) 1 := ⟨by decide +kernel, rfl⟩
theorem eX8_read_17 : eb_at mX8_read 17 18 (.aload_n 0) 1 := ⟨by decide +kernel, rfl⟩
theorem eX8_read_18 : eb_gf mX8_read 18 21 7 2 := ⟨19, (RX8, TX8, 5), by decide +kernel, rfl, rfl, by decide, wd_120⟩
theorem eX8_read_21 : eb_at mX8_read 21 24 (.if_icmp .ge 63) 3 := ⟨by decide +kernel, rfl⟩
theorem eX8_read_24 : eb_at mX8_read 24 25 (.iload_n 2) 1 := ⟨by decide +kernel, rfl⟩
theorem eX8_read_25 : eb_at mX8_read 25 28 (.ifCond .ne 59) 3 := ⟨by decide +kernel, rfl⟩
theorem eX8_read_28 : eb_at mX8_read 28 29 (.aload_n 0) 1 := ⟨by decide +kernel, rfl⟩
theorem eX8_read_29 : eb_gf mX8_read 29 32 7 0 := ⟨9, (RX8, TX8, 5), by decide +kernel, rfl, rfl, by decide, wd_117⟩
theorem eX8_read_32 : eb_at mX8_read 32 33 (.iload_n 3) 1 := ⟨by decide +kernel, rfl⟩
theorem eX8_read_33 : eb_at mX8_read 33 34 (.iaload) 1 := ⟨by decide +kernel, rfl⟩
theorem eX8_read_34 : eb_at mX8_read 34 36 (.istore 4) 2 := ⟨by decide +kernel, rfl⟩
theorem eX8_read_36 : eb_at mX8_read 36 37 (.aload_n 0) 1 := ⟨by decide +kernel, rfl⟩
theorem eX8_read_37 : eb_at mX8_read 37 39 (.iload 4) 2 := ⟨by decide +kernel, rfl⟩
theorem eX8_read_39 : eb_at mX8_read 39 40 (.iload_n 1) 1 := ⟨by decide +kernel, rfl⟩
theorem eX8_read_40 : eb_cv mX8_read 40 43 mX8_faultOf 2 := ⟨30, (RX8, TX8, 5), by decide +kernel, rfl, wd_390, wd_392, wd_7, by decide, rfl, rfl, okX8_faultOf⟩
theorem eX8_read_43 : eb_at mX8_read 43 44 (.istore_n 2) 1 := ⟨by decide +kernel, rfl⟩
theorem eX8_read_44 : eb_at mX8_read 44 45 (.iload_n 2) 1 := ⟨by decide +kernel, rfl⟩
theorem eX8_read_45 : eb_at mX8_read 45 48 (.ifCond .eq 11) 3 := ⟨by decide +kernel, rfl⟩
theorem eX8_read_48 : eb_at mX8_read 48 49 (.aload_n 0) 1 := ⟨by decide +kernel, rfl⟩
theorem eX8_read_49 : eb_at mX8_read 49 50 (.iload_n 3) 1 := ⟨by decide +kernel, rfl⟩
theorem eX8_read_50 : eb_pf mX8_read 50 53 7 4 false .int := ⟨26, (RX8, TX8, 5), by decide +kernel, rfl, rfl, by decide, wd_124, rfl, by decide +kernel, fun h => absurd h (by decide)⟩
theorem eX8_read_53 : eb_at mX8_read 53 56 (.goto 25) 3 := ⟨by decide +kernel, rfl⟩
theorem eX8_read_56 : eb_at mX8_read 56 58 (.iload 4) 2 := ⟨by decide +kernel, rfl⟩
theorem eX8_read_58 : eb_at mX8_read 58 60 (.bipush 32) 2 := ⟨by decide +kernel, rfl⟩
theorem eX8_read_60 : eb_at mX8_read 60 63 (.if_icmp .ne 8) 3 := ⟨by decide +kernel, rfl⟩
theorem eX8_read_63 : eb_at mX8_read 63 64 (.iconst 0) 1 := ⟨by decide +kernel, rfl⟩
theorem eX8_read_64 : eb_at mX8_read 64 65 (.istore_n 1) 1 := ⟨by decide +kernel, rfl⟩
theorem eX8_read_65 : eb_at mX8_read 65 68 (.goto 13) 3 := ⟨by decide +kernel, rfl⟩
theorem eX8_read_68 : eb_at mX8_read 68 69 (.aload_n 0) 1 := ⟨by decide +kernel, rfl⟩
theorem eX8_read_69 : eb_at mX8_read 69 71 (.iload 4) 2 := ⟨by decide +kernel, rfl⟩
theorem eX8_read_71 : eb_at mX8_read 71 72 (.iload_n 1) 1 := ⟨by decide +kernel, rfl⟩
theorem eX8_read_72 : eb_cv mX8_read 72 75 mX8_addToWord 2 := ⟨34, (RX8, TX8, 5), by decide +kernel, rfl, wd_394, wd_396, wd_8, by decide, rfl, rfl, okX8_addToWord⟩
theorem eX8_read_75 : eb_at mX8_read 75 78 (.iinc 1 1) 3 := ⟨by decide +kernel, rfl⟩
theorem eX8_read_78 : eb_at mX8_read 78 81 (.iinc 3 1) 3 := ⟨by decide +kernel, rfl⟩
theorem eX8_read_81 : eb_at mX8_read 81 84 (.goto (-65)) 3 := ⟨by decide +kernel, rfl⟩
theorem eX8_read_84 : eb_at mX8_read 84 85 (.aload_n 0) 1 := ⟨by decide +kernel, rfl⟩
theorem eX8_read_85 : eb_at mX8_read 85 86 (.iconst 0) 1 := ⟨by decide +kernel, rfl⟩
theorem eX8_read_86 : eb_pf mX8_read 86 89 7 2 false .int := ⟨19, (RX8, TX8, 5), by decide +kernel, rfl, rfl, by decide, wd_120, rfl, by decide +kernel, fun h => absurd h (by decide)⟩
theorem eX8_read_89 : eb_at mX8_read 89 90 (.iload_n 2) 1 := ⟨by decide +kernel, rfl⟩
theorem eX8_read_90 : eb_at mX8_read 90 91 (.ireturn) 1 := ⟨by decide +kernel, rfl⟩
end
section
theorem eX9_best_0 : eb_at mX9_best 0 1 (.iload_n 1) 1 := ⟨by decide +kernel, rfl⟩
theorem eX9_best_1 : eb_at mX9_best 1 2 (.iconst 1) 1 := ⟨by decide +kernel, rfl⟩
theorem eX9_best_2 : eb_at mX9_best 2 5 (.if_icmp .lt 24) 3 := ⟨by decide +kernel, rfl⟩
theorem eX9_best_5 : eb_at mX9_best 5 6 (.iload_n 2) 1 := ⟨by decide +kernel, rfl⟩
theorem eX9_best_6 : eb_at mX9_best 6 9 (.sipush 200) 3 := ⟨by decide +kernel, rfl⟩
theorem eX9_best_9 : eb_at mX9_best 9 12 (.if_icmp .gt 17) 3 := ⟨by decide +kernel, rfl⟩
theorem eX9_best_12 : eb_at mX9_best 12 13 (.iload_n 1) 1 := ⟨by decide +kernel, rfl⟩
theorem eX9_best_13 : eb_at mX9_best 13 14 (.iload_n 2) 1 := ⟨by decide +kernel, rfl⟩
theorem eX9_best_14 : eb_at mX9_best 14 17 (.if_icmp .gt 12) 3 := ⟨by decide +kernel, rfl⟩
theorem eX9_best_17 : eb_at mX9_best 17 18 (.iload_n 3) 1 := ⟨by decide +kernel, rfl⟩
theorem eX9_best_18 : eb_at mX9_best 18 21 (.ifCond .lt 8) 3 := ⟨by decide +kernel, rfl⟩
theorem eX9_best_21 : eb_at mX9_best 21 22 (.iload_n 3) 1 := ⟨by decide +kernel, rfl⟩
theorem eX9_best_22 : eb_at mX9_best 22 23 (.iconst 1) 1 := ⟨by decide +kernel, rfl⟩
theorem eX9_best_23 : eb_at mX9_best 23 26 (.if_icmp .le 6) 3 := ⟨by decide +kernel, rfl⟩
theorem eX9_best_26 : eb_at mX9_best 26 28 (.ldc 77) 2 := ⟨by decide +kernel, rfl⟩
theorem eX9_best_28 : eb_at mX9_best 28 29 (.ireturn) 1 := ⟨by decide +kernel, rfl⟩
theorem eX9_best_29 : eb_at mX9_best 29 30 (.aload_n 0) 1 := ⟨by decide +kernel, rfl⟩
theorem eX9_best_30 : eb_cv mX9_best 30 33 mX9_surveyed 0 := ⟨137, (RX9, TX9, 9), by decide +kernel, rfl, wd_460, wd_462, wd_11, by decide, rfl, rfl, okX9_surveyed⟩
theorem eX9_best_33 : eb_at mX9_best 33 35 (.astore 4) 2 := ⟨by decide +kernel, rfl⟩
theorem eX9_best_35 : eb_at mX9_best 35 37 (.aload 4) 2 := ⟨by decide +kernel, rfl⟩
theorem eX9_best_37 : eb_at mX9_best 37 38 (.iload_n 1) 1 := ⟨by decide +kernel, rfl⟩
theorem eX9_best_38 : eb_at mX9_best 38 39 (.iload_n 2) 1 := ⟨by decide +kernel, rfl⟩
theorem eX9_best_39 : eb_cv mX9_best 39 42 mX6_bestMeasure 2 := ⟨235, (RX6, TX6, 6), by decide +kernel, rfl, wd_655, wd_656, wd_657, by decide, rfl, rfl, okX6_bestMeasure⟩
theorem eX9_best_42 : eb_at mX9_best 42 44 (.istore 5) 2 := ⟨by decide +kernel, rfl⟩
theorem eX9_best_44 : eb_at mX9_best 44 45 (.iload_n 3) 1 := ⟨by decide +kernel, rfl⟩
theorem eX9_best_45 : eb_at mX9_best 45 48 (.ifCond .ne 8) 3 := ⟨by decide +kernel, rfl⟩
theorem eX9_best_48 : eb_at mX9_best 48 50 (.iload 5) 2 := ⟨by decide +kernel, rfl⟩
theorem eX9_best_50 : eb_at mX9_best 50 53 (.goto 11) 3 := ⟨by decide +kernel, rfl⟩
theorem eX9_best_53 : eb_at mX9_best 53 55 (.aload 4) 2 := ⟨by decide +kernel, rfl⟩
theorem eX9_best_55 : eb_gf mX9_best 55 58 5 0 := ⟨238, (RX6, TX6, 6), by decide +kernel, rfl, rfl, by decide, wd_250⟩
theorem eX9_best_58 : eb_at mX9_best 58 60 (.iload 5) 2 := ⟨by decide +kernel, rfl⟩
theorem eX9_best_60 : eb_at mX9_best 60 61 (.iaload) 1 := ⟨by decide +kernel, rfl⟩
theorem eX9_best_61 : eb_at mX9_best 61 62 (.ireturn) 1 := ⟨by decide +kernel, rfl⟩
theorem eX9_change_0 : eb_at mX9_change 0 1 (.aload_n 0) 1 := ⟨by decide +kernel, rfl⟩
theorem eX9_change_1 : eb_gf mX9_change 1 4 8 0 := ⟨12, (RX9, TX9, 9), by decide +kernel, rfl, rfl, by decide, wd_344⟩
theorem eX9_change_4 : eb_at mX9_change 4 5 (.iload_n 1) 1 := ⟨by decide +kernel, rfl⟩
theorem eX9_change_5 : eb_cv mX9_change 5 8 mX7_hasWord 1 := ⟨159, (RX7, TX7, 6), by decide +kernel, rfl, wd_507, wd_508, wd_509, by decide, rfl, rfl, okX7_hasWord⟩
theorem eX9_change_8 : eb_at mX9_change 8 11 (.ifCond .ne 6) 3 := ⟨by decide +kernel, rfl⟩
theorem eX9_change_11 : eb_at mX9_change 11 13 (.ldc 163) 2 := ⟨by decide +kernel, rfl⟩
theorem eX9_change_13 : eb_at mX9_change 13 14 (.ireturn) 1 := ⟨by decide +kernel, rfl⟩
theorem eX9_change_14 : eb_at mX9_change 14 15 (.aload_n 0) 1 := ⟨by decide +kernel, rfl⟩
theorem eX9_change_15 : eb_cv mX9_change 15 18 mX9_readOneWord 0 := ⟨209, (RX9, TX9, 9), by decide +kernel, rfl, wd_555, wd_557, wd_15, by decide, rfl, rfl, okX9_readOneWord⟩
theorem eX9_change_18 : eb_at mX9_change 18 19 (.istore_n 2) 1 := ⟨by decide +kernel, rfl⟩
theorem eX9_change_19 : eb_at mX9_change 19 20 (.iload_n 2) 1 := ⟨by decide +kernel, rfl⟩
theorem eX9_change_20 : eb_at mX9_change 20 23 (.ifCond .eq 5) 3 := ⟨by decide +kernel, rfl⟩
theorem eX9_change_23 : eb_at mX9_change 23 24 (.iload_n 2) 1 := ⟨by decide +kernel, rfl⟩
theorem eX9_change_24 : eb_at mX9_change 24 25 (.ireturn) 1 := ⟨by decide +kernel, rfl⟩
theorem eX9_change_25 : eb_at mX9_change 25 26 (.aload_n 0) 1 := ⟨by decide +kernel, rfl⟩
theorem eX9_change_26 : eb_gf mX9_change 26 29 8 2 := ⟨26, (RX9, TX9, 9), by decide +kernel, rfl, rfl, by decide, wd_346⟩
theorem eX9_change_29 : eb_at mX9_change 29 30 (.aload_n 0) 1 := ⟨by decide +kernel, rfl⟩
theorem eX9_change_30 : eb_gf mX9_change 30 33 8 0 := ⟨12, (RX9, TX9, 9), by decide +kernel, rfl, rfl, by decide, wd_344⟩
theorem eX9_change_33 : eb_cv mX9_change 33 36 mX4_remember 1 := ⟨86, (RX4, TX4, 3), by decide +kernel, rfl, wd_401, wd_402, wd_403, by decide, rfl, rfl, okX4_remember⟩
theorem eX9_change_36 : eb_at mX9_change 36 37 (.aload_n 0) 1 := ⟨by decide +kernel, rfl⟩
theorem eX9_change_37 : eb_gf mX9_change 37 40 8 0 := ⟨12, (RX9, TX9, 9), by decide +kernel, rfl, rfl, by decide, wd_344⟩
theorem eX9_change_40 : eb_gf mX9_change 40 43 6 0 := ⟨164, (RX7, TX7, 6), by decide +kernel, rfl, rfl, by decide, wd_81⟩
theorem eX9_change_43 : eb_at mX9_change 43 44 (.iload_n 1) 1 := ⟨by decide +kernel, rfl⟩
theorem eX9_change_44 : eb_at mX9_change 44 45 (.aload_n 0) 1 := ⟨by decide +kernel, rfl⟩
theorem eX9_change_45 : eb_gf mX9_change 45 48 8 1 := ⟨19, (RX9, TX9, 9), by decide +kernel, rfl, rfl, by decide, wd_345⟩
theorem eX9_change_48 : eb_gf mX9_change 48 51 7 1 := ⟨90, (RX8, TX8, 5), by decide +kernel, rfl, rfl, by decide, wd_119⟩
theorem eX9_change_51 : eb_at mX9_change 51 52 (.iconst 0) 1 := ⟨by decide +kernel, rfl⟩
theorem eX9_change_52 : eb_at mX9_change 52 53 (.laload) 1 := ⟨by decide +kernel, rfl⟩
theorem eX9_change_53 : eb_at mX9_change 53 54 (.lastore) 1 := ⟨by decide +kernel, rfl⟩
theorem eX9_change_54 : eb_at mX9_change 54 55 (.aload_n 0) 1 := ⟨by decide +kernel, rfl⟩
theorem eX9_change_55 : eb_cv mX9_change 55 58 mX9_layAnew 0 := ⟨74, (RX9, TX9, 9), by decide +kernel, rfl, wd_291, wd_293, wd_0, by decide, rfl, rfl, okX9_layAnew⟩
theorem eX9_change_58 : eb_at mX9_change 58 59 (.aload_n 0) 1 := ⟨by decide +kernel, rfl⟩
theorem eX9_change_59 : eb_gf mX9_change 59 62 8 0 := ⟨12, (RX9, TX9, 9), by decide +kernel, rfl, rfl, by decide, wd_344⟩
theorem eX9_change_62 : eb_gf mX9_change 62 65 6 0 := ⟨164, (RX7, TX7, 6), by decide +kernel, rfl, rfl, by decide, wd_81⟩
theorem eX9_change_65 : eb_at mX9_change 65 66 (.iload_n 1) 1 := ⟨by decide +kernel, rfl⟩
theorem eX9_change_66 : eb_at mX9_change 66 67 (.laload) 1 := ⟨by decide +kernel, rfl⟩
theorem eX9_change_67 : eb_cs mX9_change 67 70 mX5_widthOf 1 := ⟨165, by decide +kernel, rfl, wd_512, wd_300, by decide, okX5_widthOf⟩
theorem eX9_change_70 : eb_at mX9_change 70 71 (.ireturn) 1 := ⟨by decide +kernel, rfl⟩
theorem eX9_cost_0 : eb_at mX9_cost 0 1 (.aload_n 0) 1 := ⟨by decide +kernel, rfl⟩
theorem eX9_cost_1 : eb_gf mX9_cost 1 4 8 0 := ⟨12, (RX9, TX9, 9), by decide +kernel, rfl, rfl, by decide, wd_344⟩
theorem eX9_cost_4 : eb_at mX9_cost 4 5 (.iload_n 1) 1 := ⟨by decide +kernel, rfl⟩
theorem eX9_cost_5 : eb_cv mX9_cost 5 8 mX7_hasEnd 1 := ⟨184, (RX7, TX7, 6), by decide +kernel, rfl, wd_531, wd_532, wd_533, by decide, rfl, rfl, okX7_hasEnd⟩
theorem eX9_cost_8 : eb_at mX9_cost 8 11 (.ifCond .eq 19) 3 := ⟨by decide +kernel, rfl⟩
theorem eX9_cost_11 : eb_at mX9_cost 11 12 (.aload_n 0) 1 := ⟨by decide +kernel, rfl⟩
theorem eX9_cost_12 : eb_gf mX9_cost 12 15 8 0 := ⟨12, (RX9, TX9, 9), by decide +kernel, rfl, rfl, by decide, wd_344⟩
theorem eX9_cost_15 : eb_at mX9_cost 15 16 (.iload_n 2) 1 := ⟨by decide +kernel, rfl⟩
theorem eX9_cost_16 : eb_cv mX9_cost 16 19 mX7_hasEnd 1 := ⟨184, (RX7, TX7, 6), by decide +kernel, rfl, wd_531, wd_532, wd_533, by decide, rfl, rfl, okX7_hasEnd⟩
theorem eX9_cost_19 : eb_at mX9_cost 19 22 (.ifCond .eq 8) 3 := ⟨by decide +kernel, rfl⟩
theorem eX9_cost_22 : eb_at mX9_cost 22 23 (.iload_n 2) 1 := ⟨by decide +kernel, rfl⟩
theorem eX9_cost_23 : eb_at mX9_cost 23 24 (.iload_n 1) 1 := ⟨by decide +kernel, rfl⟩
theorem eX9_cost_24 : eb_at mX9_cost 24 27 (.if_icmp .gt 6) 3 := ⟨by decide +kernel, rfl⟩
theorem eX9_cost_27 : eb_at mX9_cost 27 29 (.ldc 163) 2 := ⟨by decide +kernel, rfl⟩
theorem eX9_cost_29 : eb_at mX9_cost 29 30 (.ireturn) 1 := ⟨by decide +kernel, rfl⟩
theorem eX9_cost_30 : eb_at mX9_cost 30 31 (.aload_n 0) 1 := ⟨by decide +kernel, rfl⟩
theorem eX9_cost_31 : eb_gf mX9_cost 31 34 8 5 := ⟨59, (RX9, TX9, 9), by decide +kernel, rfl, rfl, by decide, wd_349⟩
theorem eX9_cost_34 : eb_at mX9_cost 34 35 (.iload_n 1) 1 := ⟨by decide +kernel, rfl⟩
theorem eX9_cost_35 : eb_at mX9_cost 35 36 (.iload_n 2) 1 := ⟨by decide +kernel, rfl⟩
theorem eX9_cost_36 : eb_cv mX9_cost 36 39 mX3_price 2 := ⟨206, (RX3, TX3, 13), by decide +kernel, rfl, wd_550, wd_441, wd_442, by decide, rfl, rfl, okX3_price⟩
theorem eX9_cost_39 : eb_at mX9_cost 39 40 (.ireturn) 1 := ⟨by decide +kernel, rfl⟩
theorem eX9_drift_0 : eb_at mX9_drift 0 1 (.iload_n 1) 1 := ⟨by decide +kernel, rfl⟩
theorem eX9_drift_1 : eb_at mX9_drift 1 2 (.iconst 1) 1 := ⟨by decide +kernel, rfl⟩
theorem eX9_drift_2 : eb_at mX9_drift 2 5 (.if_icmp .lt 9) 3 := ⟨by decide +kernel, rfl⟩
theorem eX9_drift_5 : eb_at mX9_drift 5 6 (.iload_n 1) 1 := ⟨by decide +kernel, rfl⟩
theorem eX9_drift_6 : eb_at mX9_drift 6 8 (.bipush 16) 2 := ⟨by decide +kernel, rfl⟩
theorem eX9_drift_8 : eb_at mX9_drift 8 11 (.if_icmp .le 6) 3 := ⟨by decide +kernel, rfl⟩
theorem eX9_drift_11 : eb_at mX9_drift 11 13 (.ldc 77) 2 := ⟨by decide +kernel, rfl⟩
theorem eX9_drift_13 : eb_at mX9_drift 13 14 (.ireturn) 1 := ⟨by decide +kernel, rfl⟩
theorem eX9_drift_14 : eb_at mX9_drift 14 15 (.iconst 0) 1 := ⟨by decide +kernel, rfl⟩
theorem eX9_drift_15 : eb_at mX9_drift 15 16 (.istore_n 2) 1 := ⟨by decide +kernel, rfl⟩
theorem eX9_drift_16 : eb_at mX9_drift 16 17 (.iload_n 2) 1 := ⟨by decide +kernel, rfl⟩
theorem eX9_drift_17 : eb_at mX9_drift 17 18 (.iload_n 1) 1 := ⟨by decide +kernel, rfl⟩
theorem eX9_drift_18 : eb_at mX9_drift 18 21 (.if_icmp .ge 24) 3 := ⟨by decide +kernel, rfl⟩
theorem eX9_drift_21 : eb_at mX9_drift 21 22 (.aload_n 0) 1 := ⟨by decide +kernel, rfl⟩
theorem eX9_drift_22 : eb_gf mX9_drift 22 25 8 2 := ⟨26, (RX9, TX9, 9), by decide +kernel, rfl, rfl, by decide, wd_346⟩
theorem eX9_drift_25 : eb_at mX9_drift 25 26 (.aload_n 0) 1 := ⟨by decide +kernel, rfl⟩
theorem eX9_drift_26 : eb_gf mX9_drift 26 29 8 0 := ⟨12, (RX9, TX9, 9), by decide +kernel, rfl, rfl, by decide, wd_344⟩
theorem eX9_drift_29 : eb_cv mX9_drift 29 32 mX4_remember 1 := ⟨86, (RX4, TX4, 3), by decide +kernel, rfl, wd_401, wd_402, wd_403, by decide, rfl, rfl, okX4_remember⟩
theorem eX9_drift_32 : eb_at mX9_drift 32 33 (.aload_n 0) 1 := ⟨by decide +kernel, rfl⟩
theorem eX9_drift_33 : eb_cv mX9_drift 33 36 mX9_driftOnce 0 := ⟨221, (RX9, TX9, 9), by decide +kernel, rfl, wd_599, wd_601, wd_16, by decide, rfl, rfl, okX9_driftOnce⟩
theorem eX9_drift_36 : eb_at mX9_drift 36 39 (.iinc 2 1) 3 := ⟨by decide +kernel, rfl⟩
theorem eX9_drift_39 : eb_at mX9_drift 39 42 (.goto (-23)) 3 := ⟨by decide +kernel, rfl⟩
theorem eX9_drift_42 : eb_at mX9_drift 42 43 (.aload_n 0) 1 := ⟨by decide +kernel, rfl⟩
theorem eX9_drift_43 : eb_cv mX9_drift 43 46 mX9_layAnew 0 := ⟨74, (RX9, TX9, 9), by decide +kernel, rfl, wd_291, wd_293, wd_0, by decide, rfl, rfl, okX9_layAnew⟩
theorem eX9_drift_46 : eb_at mX9_drift 46 47 (.aload_n 0) 1 := ⟨by decide +kernel, rfl⟩
theorem eX9_drift_47 : eb_gf mX9_drift 47 50 8 0 := ⟨12, (RX9, TX9, 9), by decide +kernel, rfl, rfl, by decide, wd_344⟩
theorem eX9_drift_50 : eb_gf mX9_drift 50 53 6 1 := ⟨102, (RX7, TX7, 6), by decide +kernel, rfl, rfl, by decide, wd_84⟩
theorem eX9_drift_53 : eb_at mX9_drift 53 54 (.ireturn) 1 := ⟨by decide +kernel, rfl⟩
theorem eX9_driftOnce_0 : eb_at mX9_driftOnce 0 1 (.aload_n 0) 1 := ⟨by decide +kernel, rfl⟩
theorem eX9_driftOnce_1 : eb_gf mX9_driftOnce 1 4 8 3 := ⟨33, (RX9, TX9, 9), by decide +kernel, rfl, rfl, by decide, wd_347⟩
theorem eX9_driftOnce_4 : eb_cv mX9_driftOnce 4 7 mX1_drawWord 0 := ⟨274, (RX1, TX1, 1), by decide +kernel, rfl, wd_603, wd_604, wd_605, by decide, rfl, rfl, okX1_drawWord⟩
theorem eX9_driftOnce_7 : eb_at mX9_driftOnce 7 8 (.lstore_n 1) 1 := ⟨by decide +kernel, rfl⟩
theorem eX9_driftOnce_8 : eb_at mX9_driftOnce 8 9 (.aload_n 0) 1 := ⟨by decide +kernel, rfl⟩
theorem eX9_driftOnce_9 : eb_gf mX9_driftOnce 9 12 8 0 := ⟨12, (RX9, TX9, 9), by decide +kernel, rfl, rfl, by decide, wd_344⟩
theorem eX9_driftOnce_12 : eb_gf mX9_driftOnce 12 15 6 1 := ⟨102, (RX7, TX7, 6), by decide +kernel, rfl, rfl, by decide, wd_84⟩
theorem eX9_driftOnce_15 : eb_at mX9_driftOnce 15 17 (.bipush 40) 2 := ⟨by decide +kernel, rfl⟩
theorem eX9_driftOnce_17 : eb_at mX9_driftOnce 17 20 (.if_icmp .ge 21) 3 := ⟨by decide +kernel, rfl⟩
theorem eX9_driftOnce_20 : eb_at mX9_driftOnce 20 21 (.aload_n 0) 1 := ⟨by decide +kernel, rfl⟩
theorem eX9_driftOnce_21 : eb_gf mX9_driftOnce 21 24 8 0 := ⟨12, (RX9, TX9, 9), by decide +kernel, rfl, rfl, by decide, wd_344⟩
theorem eX9_driftOnce_24 : eb_at mX9_driftOnce 24 25 (.aload_n 0) 1 := ⟨by decide +kernel, rfl⟩
theorem eX9_driftOnce_25 : eb_gf mX9_driftOnce 25 28 8 0 := ⟨12, (RX9, TX9, 9), by decide +kernel, rfl, rfl, by decide, wd_344⟩
theorem eX9_driftOnce_28 : eb_gf mX9_driftOnce 28 31 6 1 := ⟨102, (RX7, TX7, 6), by decide +kernel, rfl, rfl, by decide, wd_84⟩
theorem eX9_driftOnce_31 : eb_at mX9_driftOnce 31 32 (.lload_n 1) 1 := ⟨by decide +kernel, rfl⟩
theorem eX9_driftOnce_32 : eb_cv mX9_driftOnce 32 35 mX7_putIn 2 := ⟨213, (RX7, TX7, 6), by decide +kernel, rfl, wd_565, wd_566, wd_567, by decide, rfl, rfl, okX7_putIn⟩
theorem eX9_driftOnce_35 : eb_at mX9_driftOnce 35 38 (.goto 21) 3 := ⟨by decide +kernel, rfl⟩
theorem eX9_driftOnce_38 : eb_at mX9_driftOnce 38 39 (.aload_n 0) 1 := ⟨by decide +kernel, rfl⟩
theorem eX9_driftOnce_39 : eb_gf mX9_driftOnce 39 42 8 0 := ⟨12, (RX9, TX9, 9), by decide +kernel, rfl, rfl, by decide, wd_344⟩
theorem eX9_driftOnce_42 : eb_gf mX9_driftOnce 42 45 6 0 := ⟨164, (RX7, TX7, 6), by decide +kernel, rfl, rfl, by decide, wd_81⟩
theorem eX9_driftOnce_45 : eb_at mX9_driftOnce 45 46 (.aload_n 0) 1 := ⟨by decide +kernel, rfl⟩
theorem eX9_driftOnce_46 : eb_gf mX9_driftOnce 46 49 8 3 := ⟨33, (RX9, TX9, 9), by decide +kernel, rfl, rfl, by decide, wd_347⟩
theorem eX9_driftOnce_49 : eb_at mX9_driftOnce 49 51 (.bipush 40) 2 := ⟨by decide +kernel, rfl⟩
theorem eX9_driftOnce_51 : eb_cv mX9_driftOnce 51 54 mX1_draw 1 := ⟨278, (RX1, TX1, 1), by decide +kernel, rfl, wd_616, wd_608, wd_609, by decide, rfl, rfl, okX1_draw⟩
theorem eX9_driftOnce_54 : eb_at mX9_driftOnce 54 55 (.lload_n 1) 1 := ⟨by decide +kernel, rfl⟩
theorem eX9_driftOnce_55 : eb_at mX9_driftOnce 55 56 (.lastore) 1 := ⟨by decide +kernel, rfl⟩
theorem eX9_driftOnce_56 : eb_at mX9_driftOnce 56 57 (.return_) 1 := ⟨by decide +kernel, rfl⟩
theorem eX9_end_0 : eb_at mX9_end 0 1 (.aload_n 0) 1 := ⟨by decide +kernel, rfl⟩
theorem eX9_end_1 : eb_gf mX9_end 1 4 8 0 := ⟨12, (RX9, TX9, 9), by decide +kernel, rfl, rfl, by decide, wd_344⟩
theorem eX9_end_4 : eb_at mX9_end 4 5 (.iload_n 1) 1 := ⟨by decide +kernel, rfl⟩
theorem eX9_end_5 : eb_cv mX9_end 5 8 mX7_hasEnd 1 := ⟨184, (RX7, TX7, 6), by decide +kernel, rfl, wd_531, wd_532, wd_533, by decide, rfl, rfl, okX7_hasEnd⟩
theorem eX9_end_8 : eb_at mX9_end 8 11 (.ifCond .ne 6) 3 := ⟨by decide +kernel, rfl⟩
theorem eX9_end_11 : eb_at mX9_end 11 13 (.ldc 163) 2 := ⟨by decide +kernel, rfl⟩
theorem eX9_end_13 : eb_at mX9_end 13 14 (.ireturn) 1 := ⟨by decide +kernel, rfl⟩
theorem eX9_end_14 : eb_at mX9_end 14 15 (.iload_n 2) 1 := ⟨by decide +kernel, rfl⟩
theorem eX9_end_15 : eb_at mX9_end 15 40 (.tableswitch 54 0 2 #[25, 35, 45]) 25 := ⟨by decide +kernel, rfl⟩
theorem eX9_end_40 : eb_at mX9_end 40 41 (.aload_n 0) 1 := ⟨by decide +kernel, rfl⟩
theorem eX9_end_41 : eb_gf mX9_end 41 44 8 5 := ⟨59, (RX9, TX9, 9), by decide +kernel, rfl, rfl, by decide, wd_349⟩
theorem eX9_end_44 : eb_gf mX9_end 44 47 3 2 := ⟨187, (RX3, TX3, 13), by decide +kernel, rfl, rfl, by decide, wd_200⟩
theorem eX9_end_47 : eb_at mX9_end 47 48 (.iload_n 1) 1 := ⟨by decide +kernel, rfl⟩
theorem eX9_end_48 : eb_at mX9_end 48 49 (.iaload) 1 := ⟨by decide +kernel, rfl⟩
theorem eX9_end_49 : eb_at mX9_end 49 50 (.ireturn) 1 := ⟨by decide +kernel, rfl⟩
theorem eX9_end_50 : eb_at mX9_end 50 51 (.aload_n 0) 1 := ⟨by decide +kernel, rfl⟩
theorem eX9_end_51 : eb_gf mX9_end 51 54 8 5 := ⟨59, (RX9, TX9, 9), by decide +kernel, rfl, rfl, by decide, wd_349⟩
theorem eX9_end_54 : eb_gf mX9_end 54 57 3 3 := ⟨191, (RX3, TX3, 13), by decide +kernel, rfl, rfl, by decide, wd_202⟩
theorem eX9_end_57 : eb_at mX9_end 57 58 (.iload_n 1) 1 := ⟨by decide +kernel, rfl⟩
theorem eX9_end_58 : eb_at mX9_end 58 59 (.iaload) 1 := ⟨by decide +kernel, rfl⟩
theorem eX9_end_59 : eb_at mX9_end 59 60 (.ireturn) 1 := ⟨by decide +kernel, rfl⟩
theorem eX9_end_60 : eb_at mX9_end 60 61 (.aload_n 0) 1 := ⟨by decide +kernel, rfl⟩
theorem eX9_end_61 : eb_gf mX9_end 61 64 8 5 := ⟨59, (RX9, TX9, 9), by decide +kernel, rfl, rfl, by decide, wd_349⟩
theorem eX9_end_64 : eb_at mX9_end 64 65 (.iload_n 1) 1 := ⟨by decide +kernel, rfl⟩
theorem eX9_end_65 : eb_cv mX9_end 65 68 mX3_runsAt 1 := ⟨194, (RX3, TX3, 13), by decide +kernel, rfl, wd_535, wd_536, wd_537, by decide, rfl, rfl, okX3_runsAt⟩
theorem eX9_end_68 : eb_at mX9_end 68 69 (.ireturn) 1 := ⟨by decide +kernel, rfl⟩
theorem eX9_end_69 : eb_at mX9_end 69 71 (.ldc 77) 2 := ⟨by decide +kernel, rfl⟩
theorem eX9_end_71 : eb_at mX9_end 71 72 (.ireturn) 1 := ⟨by decide +kernel, rfl⟩
theorem eX9_fault_0 : eb_at mX9_fault 0 1 (.aload_n 0) 1 := ⟨by decide +kernel, rfl⟩
theorem eX9_fault_1 : eb_gf mX9_fault 1 4 8 1 := ⟨19, (RX9, TX9, 9), by decide +kernel, rfl, rfl, by decide, wd_345⟩
theorem eX9_fault_4 : eb_gf mX9_fault 4 7 7 4 := ⟨105, (RX8, TX8, 5), by decide +kernel, rfl, rfl, by decide, wd_125⟩
theorem eX9_fault_7 : eb_at mX9_fault 7 8 (.ireturn) 1 := ⟨by decide +kernel, rfl⟩
theorem eX9_fee_0 : eb_at mX9_fee 0 1 (.iload_n 1) 1 := ⟨by decide +kernel, rfl⟩
theorem eX9_fee_1 : eb_at mX9_fee 1 4 (.ifCond .lt 9) 3 := ⟨by decide +kernel, rfl⟩
theorem eX9_fee_4 : eb_at mX9_fee 4 5 (.iload_n 1) 1 := ⟨by decide +kernel, rfl⟩
theorem eX9_fee_5 : eb_at mX9_fee 5 7 (.bipush 99) 2 := ⟨by decide +kernel, rfl⟩
theorem eX9_fee_7 : eb_at mX9_fee 7 10 (.if_icmp .le 6) 3 := ⟨by decide +kernel, rfl⟩
theorem eX9_fee_10 : eb_at mX9_fee 10 12 (.ldc 77) 2 := ⟨by decide +kernel, rfl⟩
theorem eX9_fee_12 : eb_at mX9_fee 12 13 (.ireturn) 1 := ⟨by decide +kernel, rfl⟩
theorem eX9_fee_13 : eb_at mX9_fee 13 14 (.aload_n 0) 1 := ⟨by decide +kernel, rfl⟩
theorem eX9_fee_14 : eb_gf mX9_fee 14 17 8 2 := ⟨26, (RX9, TX9, 9), by decide +kernel, rfl, rfl, by decide, wd_346⟩
theorem eX9_fee_17 : eb_at mX9_fee 17 18 (.aload_n 0) 1 := ⟨by decide +kernel, rfl⟩
theorem eX9_fee_18 : eb_gf mX9_fee 18 21 8 0 := ⟨12, (RX9, TX9, 9), by decide +kernel, rfl, rfl, by decide, wd_344⟩
theorem eX9_fee_21 : eb_cv mX9_fee 21 24 mX4_remember 1 := ⟨86, (RX4, TX4, 3), by decide +kernel, rfl, wd_401, wd_402, wd_403, by decide, rfl, rfl, okX4_remember⟩
theorem eX9_fee_24 : eb_at mX9_fee 24 25 (.aload_n 0) 1 := ⟨by decide +kernel, rfl⟩
theorem eX9_fee_25 : eb_gf mX9_fee 25 28 8 0 := ⟨12, (RX9, TX9, 9), by decide +kernel, rfl, rfl, by decide, wd_344⟩
theorem eX9_fee_28 : eb_at mX9_fee 28 29 (.iload_n 1) 1 := ⟨by decide +kernel, rfl⟩
theorem eX9_fee_29 : eb_pf mX9_fee 29 32 6 4 false .int := ⟨114, (RX7, TX7, 6), by decide +kernel, rfl, rfl, by decide, wd_93, rfl, by decide +kernel, fun h => absurd h (by decide)⟩
theorem eX9_fee_32 : eb_at mX9_fee 32 33 (.aload_n 0) 1 := ⟨by decide +kernel, rfl⟩
theorem eX9_fee_33 : eb_cv mX9_fee 33 36 mX9_layAnew 0 := ⟨74, (RX9, TX9, 9), by decide +kernel, rfl, wd_291, wd_293, wd_0, by decide, rfl, rfl, okX9_layAnew⟩
theorem eX9_fee_36 : eb_at mX9_fee 36 37 (.aload_n 0) 1 := ⟨by decide +kernel, rfl⟩
theorem eX9_fee_37 : eb_gf mX9_fee 37 40 8 5 := ⟨59, (RX9, TX9, 9), by decide +kernel, rfl, rfl, by decide, wd_349⟩
theorem eX9_fee_40 : eb_cv mX9_fee 40 43 mX3_lastTotal 0 := ⟨122, (RX3, TX3, 13), by decide +kernel, rfl, wd_428, wd_429, wd_430, by decide, rfl, rfl, okX3_lastTotal⟩
theorem eX9_fee_43 : eb_at mX9_fee 43 44 (.ireturn) 1 := ⟨by decide +kernel, rfl⟩
theorem eX9_feed_0 : eb_at mX9_feed 0 1 (.iload_n 1) 1 := ⟨by decide +kernel, rfl⟩
theorem eX9_feed_1 : eb_at mX9_feed 1 4 (.ifCond .lt 10) 3 := ⟨by decide +kernel, rfl⟩
theorem eX9_feed_4 : eb_at mX9_feed 4 5 (.iload_n 1) 1 := ⟨by decide +kernel, rfl⟩
theorem eX9_feed_5 : eb_at mX9_feed 5 8 (.sipush 255) 3 := ⟨by decide +kernel, rfl⟩
theorem eX9_feed_8 : eb_at mX9_feed 8 11 (.if_icmp .le 6) 3 := ⟨by decide +kernel, rfl⟩
theorem eX9_feed_11 : eb_at mX9_feed 11 13 (.ldc 77) 2 := ⟨by decide +kernel, rfl⟩
theorem eX9_feed_13 : eb_at mX9_feed 13 14 (.ireturn) 1 := ⟨by decide +kernel, rfl⟩
theorem eX9_feed_14 : eb_at mX9_feed 14 15 (.aload_n 0) 1 := ⟨by decide +kernel, rfl⟩
theorem eX9_feed_15 : eb_gf mX9_feed 15 18 8 1 := ⟨19, (RX9, TX9, 9), by decide +kernel, rfl, rfl, by decide, wd_345⟩
theorem eX9_feed_18 : eb_at mX9_feed 18 19 (.iload_n 1) 1 := ⟨by decide +kernel, rfl⟩
theorem eX9_feed_19 : eb_cv mX9_feed 19 22 mX8_add 1 := ⟨78, (RX8, TX8, 5), by decide +kernel, rfl, wd_377, wd_378, wd_379, by decide, rfl, rfl, okX8_add⟩
theorem eX9_feed_22 : eb_at mX9_feed 22 23 (.ireturn) 1 := ⟨by decide +kernel, rfl⟩
theorem eX9_first_0 : eb_at mX9_first 0 1 (.iload_n 1) 1 := ⟨by decide +kernel, rfl⟩
theorem eX9_first_1 : eb_at mX9_first 1 28 (.lookupswitch 45 #[(0, 27), (1, 36)]) 27 := ⟨by decide +kernel, rfl⟩
theorem eX9_first_28 : eb_at mX9_first 28 29 (.aload_n 0) 1 := ⟨by decide +kernel, rfl⟩
theorem eX9_first_29 : eb_gf mX9_first 29 32 8 5 := ⟨59, (RX9, TX9, 9), by decide +kernel, rfl, rfl, by decide, wd_349⟩
theorem eX9_first_32 : eb_at mX9_first 32 33 (.iconst 1) 1 := ⟨by decide +kernel, rfl⟩
theorem eX9_first_33 : eb_cv mX9_first 33 36 mX3_firstCrossed 1 := ⟨128, (RX3, TX3, 13), by decide +kernel, rfl, wd_432, wd_433, wd_434, by decide, rfl, rfl, okX3_firstCrossed⟩
theorem eX9_first_36 : eb_at mX9_first 36 37 (.ireturn) 1 := ⟨by decide +kernel, rfl⟩
theorem eX9_first_37 : eb_at mX9_first 37 38 (.aload_n 0) 1 := ⟨by decide +kernel, rfl⟩
theorem eX9_first_38 : eb_gf mX9_first 38 41 8 5 := ⟨59, (RX9, TX9, 9), by decide +kernel, rfl, rfl, by decide, wd_349⟩
theorem eX9_first_41 : eb_at mX9_first 41 42 (.iconst (-1)) 1 := ⟨by decide +kernel, rfl⟩
theorem eX9_first_42 : eb_cv mX9_first 42 45 mX3_firstCrossed 1 := ⟨128, (RX3, TX3, 13), by decide +kernel, rfl, wd_432, wd_433, wd_434, by decide, rfl, rfl, okX3_firstCrossed⟩
theorem eX9_first_45 : eb_at mX9_first 45 46 (.ireturn) 1 := ⟨by decide +kernel, rfl⟩
theorem eX9_first_46 : eb_at mX9_first 46 48 (.ldc 77) 2 := ⟨by decide +kernel, rfl⟩
theorem eX9_first_48 : eb_at mX9_first 48 49 (.ireturn) 1 := ⟨by decide +kernel, rfl⟩
theorem eX9_free_0 : eb_at mX9_free 0 1 (.aload_n 0) 1 := ⟨by decide +kernel, rfl⟩
theorem eX9_free_1 : eb_gf mX9_free 1 4 8 2 := ⟨26, (RX9, TX9, 9), by decide +kernel, rfl, rfl, by decide, wd_346⟩
theorem eX9_free_4 : eb_at mX9_free 4 5 (.aload_n 0) 1 := ⟨by decide +kernel, rfl⟩
theorem eX9_free_5 : eb_gf mX9_free 5 8 8 0 := ⟨12, (RX9, TX9, 9), by decide +kernel, rfl, rfl, by decide, wd_344⟩
theorem eX9_free_8 : eb_cv mX9_free 8 11 mX4_remember 1 := ⟨86, (RX4, TX4, 3), by decide +kernel, rfl, wd_401, wd_402, wd_403, by decide, rfl, rfl, okX4_remember⟩
theorem eX9_free_11 : eb_at mX9_free 11 12 (.aload_n 0) 1 := ⟨by decide +kernel, rfl⟩
theorem eX9_free_12 : eb_gf mX9_free 12 15 8 0 := ⟨12, (RX9, TX9, 9), by decide +kernel, rfl, rfl, by decide, wd_344⟩
theorem eX9_free_15 : eb_at mX9_free 15 16 (.iload_n 1) 1 := ⟨by decide +kernel, rfl⟩
theorem eX9_free_16 : eb_pf mX9_free 16 19 6 5 false .boolean := ⟨117, (RX7, TX7, 6), by decide +kernel, rfl, rfl, by decide, wd_96, rfl, by decide +kernel, fun h => absurd h (by decide)⟩
theorem eX9_free_19 : eb_at mX9_free 19 20 (.aload_n 0) 1 := ⟨by decide +kernel, rfl⟩
theorem eX9_free_20 : eb_cv mX9_free 20 23 mX9_layAnew 0 := ⟨74, (RX9, TX9, 9), by decide +kernel, rfl, wd_291, wd_293, wd_0, by decide, rfl, rfl, okX9_layAnew⟩
theorem eX9_free_23 : eb_at mX9_free 23 24 (.aload_n 0) 1 := ⟨by decide +kernel, rfl⟩
theorem eX9_free_24 : eb_gf mX9_free 24 27 8 5 := ⟨59, (RX9, TX9, 9), by decide +kernel, rfl, rfl, by decide, wd_349⟩
theorem eX9_free_27 : eb_cv mX9_free 27 30 mX3_lastTotal 0 := ⟨122, (RX3, TX3, 13), by decide +kernel, rfl, wd_428, wd_429, wd_430, by decide, rfl, rfl, okX3_lastTotal⟩
theorem eX9_free_30 : eb_at mX9_free 30 31 (.ireturn) 1 := ⟨by decide +kernel, rfl⟩
theorem eX9_goBack_0 : eb_at mX9_goBack 0 1 (.iload_n 1) 1 := ⟨by decide +kernel, rfl⟩
theorem eX9_goBack_1 : eb_at mX9_goBack 1 4 (.ifCond .lt 8) 3 := ⟨by decide +kernel, rfl⟩
theorem eX9_goBack_4 : eb_at mX9_goBack 4 5 (.iload_n 1) 1 := ⟨by decide +kernel, rfl⟩
theorem eX9_goBack_5 : eb_at mX9_goBack 5 6 (.iconst 2) 1 := ⟨by decide +kernel, rfl⟩
theorem eX9_goBack_6 : eb_at mX9_goBack 6 9 (.if_icmp .lt 6) 3 := ⟨by decide +kernel, rfl⟩
theorem eX9_goBack_9 : eb_at mX9_goBack 9 11 (.ldc 163) 2 := ⟨by decide +kernel, rfl⟩
theorem eX9_goBack_11 : eb_at mX9_goBack 11 12 (.ireturn) 1 := ⟨by decide +kernel, rfl⟩
theorem eX9_goBack_12 : eb_at mX9_goBack 12 13 (.aload_n 0) 1 := ⟨by decide +kernel, rfl⟩
theorem eX9_goBack_13 : eb_gf mX9_goBack 13 16 8 4 := ⟨39, (RX9, TX9, 9), by decide +kernel, rfl, rfl, by decide, wd_348⟩
theorem eX9_goBack_16 : eb_at mX9_goBack 16 17 (.iload_n 1) 1 := ⟨by decide +kernel, rfl⟩
theorem eX9_goBack_17 : eb_at mX9_goBack 17 18 (.aaload) 1 := ⟨by decide +kernel, rfl⟩
theorem eX9_goBack_18 : eb_gf mX9_goBack 18 21 2 2 := ⟨258, (RX2, TX2, 3), by decide +kernel, rfl, rfl, by decide, wd_283⟩
theorem eX9_goBack_21 : eb_at mX9_goBack 21 24 (.ifCond .ne 6) 3 := ⟨by decide +kernel, rfl⟩
theorem eX9_goBack_24 : eb_at mX9_goBack 24 26 (.ldc 224) 2 := ⟨by decide +kernel, rfl⟩
theorem eX9_goBack_26 : eb_at mX9_goBack 26 27 (.ireturn) 1 := ⟨by decide +kernel, rfl⟩
theorem eX9_goBack_27 : eb_at mX9_goBack 27 28 (.aload_n 0) 1 := ⟨by decide +kernel, rfl⟩
theorem eX9_goBack_28 : eb_gf mX9_goBack 28 31 8 0 := ⟨12, (RX9, TX9, 9), by decide +kernel, rfl, rfl, by decide, wd_344⟩
theorem eX9_goBack_31 : eb_at mX9_goBack 31 32 (.aload_n 0) 1 := ⟨by decide +kernel, rfl⟩
theorem eX9_goBack_32 : eb_gf mX9_goBack 32 35 8 4 := ⟨39, (RX9, TX9, 9), by decide +kernel, rfl, rfl, by decide, wd_348⟩
theorem eX9_goBack_35 : eb_at mX9_goBack 35 36 (.iload_n 1) 1 := ⟨by decide +kernel, rfl⟩
theorem eX9_goBack_36 : eb_at mX9_goBack 36 37 (.aaload) 1 := ⟨by decide +kernel, rfl⟩
theorem eX9_goBack_37 : eb_gf mX9_goBack 37 40 2 0 := ⟨253, (RX2, TX2, 3), by decide +kernel, rfl, rfl, by decide, wd_279⟩
theorem eX9_goBack_40 : eb_cv mX9_goBack 40 43 mX7_become 1 := ⟨254, (RX7, TX7, 6), by decide +kernel, rfl, wd_693, wd_406, wd_407, by decide, rfl, rfl, okX7_become⟩
theorem eX9_goBack_43 : eb_at mX9_goBack 43 44 (.aload_n 0) 1 := ⟨by decide +kernel, rfl⟩
theorem eX9_goBack_44 : eb_gf mX9_goBack 44 47 8 3 := ⟨33, (RX9, TX9, 9), by decide +kernel, rfl, rfl, by decide, wd_347⟩
theorem eX9_goBack_47 : eb_at mX9_goBack 47 48 (.aload_n 0) 1 := ⟨by decide +kernel, rfl⟩
theorem eX9_goBack_48 : eb_gf mX9_goBack 48 51 8 4 := ⟨39, (RX9, TX9, 9), by decide +kernel, rfl, rfl, by decide, wd_348⟩
theorem eX9_goBack_51 : eb_at mX9_goBack 51 52 (.iload_n 1) 1 := ⟨by decide +kernel, rfl⟩
theorem eX9_goBack_52 : eb_at mX9_goBack 52 53 (.aaload) 1 := ⟨by decide +kernel, rfl⟩
theorem eX9_goBack_53 : eb_gf mX9_goBack 53 56 2 1 := ⟨257, (RX2, TX2, 3), by decide +kernel, rfl, rfl, by decide, wd_281⟩
theorem eX9_goBack_56 : eb_pf mX9_goBack 56 59 1 0 false .int := ⟨250, (RX1, TX1, 1), by decide +kernel, rfl, rfl, by decide, wd_165, rfl, by decide +kernel, fun h => absurd h (by decide)⟩
theorem eX9_goBack_59 : eb_at mX9_goBack 59 60 (.aload_n 0) 1 := ⟨by decide +kernel, rfl⟩
theorem eX9_goBack_60 : eb_gf mX9_goBack 60 63 8 2 := ⟨26, (RX9, TX9, 9), by decide +kernel, rfl, rfl, by decide, wd_346⟩
theorem eX9_goBack_63 : eb_at mX9_goBack 63 64 (.iconst 0) 1 := ⟨by decide +kernel, rfl⟩
theorem eX9_goBack_64 : eb_pf mX9_goBack 64 67 4 2 false .int := ⟨158, (RX4, TX4, 3), by decide +kernel, rfl, rfl, by decide, wd_150, rfl, by decide +kernel, fun h => absurd h (by decide)⟩
theorem eX9_goBack_67 : eb_at mX9_goBack 67 68 (.aload_n 0) 1 := ⟨by decide +kernel, rfl⟩
theorem eX9_goBack_68 : eb_cv mX9_goBack 68 71 mX9_layAnew 0 := ⟨74, (RX9, TX9, 9), by decide +kernel, rfl, wd_291, wd_293, wd_0, by decide, rfl, rfl, okX9_layAnew⟩
theorem eX9_goBack_71 : eb_at mX9_goBack 71 72 (.iconst 1) 1 := ⟨by decide +kernel, rfl⟩
theorem eX9_goBack_72 : eb_at mX9_goBack 72 73 (.ireturn) 1 := ⟨by decide +kernel, rfl⟩
theorem eX9_grows_0 : eb_at mX9_grows 0 1 (.aload_n 0) 1 := ⟨by decide +kernel, rfl⟩
theorem eX9_grows_1 : eb_gf mX9_grows 1 4 8 6 := ⟨63, (RX9, TX9, 9), by decide +kernel, rfl, rfl, by decide, wd_350⟩
theorem eX9_grows_4 : eb_at mX9_grows 4 5 (.aload_n 0) 1 := ⟨by decide +kernel, rfl⟩
theorem eX9_grows_5 : eb_gf mX9_grows 5 8 8 0 := ⟨12, (RX9, TX9, 9), by decide +kernel, rfl, rfl, by decide, wd_344⟩
theorem eX9_grows_8 : eb_cv mX9_grows 8 11 mX3_load 1 := ⟨261, (RX3, TX3, 13), by decide +kernel, rfl, wd_295, wd_296, wd_297, by decide, rfl, rfl, okX3_load⟩
theorem eX9_grows_11 : eb_at mX9_grows 11 12 (.iconst 1) 1 := ⟨by decide +kernel, rfl⟩
theorem eX9_grows_12 : eb_at mX9_grows 12 13 (.istore_n 2) 1 := ⟨by decide +kernel, rfl⟩
theorem eX9_grows_13 : eb_at mX9_grows 13 14 (.iload_n 2) 1 := ⟨by decide +kernel, rfl⟩
theorem eX9_grows_14 : eb_at mX9_grows 14 16 (.bipush 50) 2 := ⟨by decide +kernel, rfl⟩
theorem eX9_grows_16 : eb_at mX9_grows 16 19 (.if_icmp .gt 45) 3 := ⟨by decide +kernel, rfl⟩
theorem eX9_grows_19 : eb_at mX9_grows 19 20 (.aload_n 0) 1 := ⟨by decide +kernel, rfl⟩
theorem eX9_grows_20 : eb_gf mX9_grows 20 23 8 6 := ⟨63, (RX9, TX9, 9), by decide +kernel, rfl, rfl, by decide, wd_350⟩
theorem eX9_grows_23 : eb_at mX9_grows 23 24 (.iload_n 1) 1 := ⟨by decide +kernel, rfl⟩
theorem eX9_grows_24 : eb_at mX9_grows 24 25 (.iconst 1) 1 := ⟨by decide +kernel, rfl⟩
theorem eX9_grows_25 : eb_cv mX9_grows 25 28 mX3_widen 2 := ⟨281, (RX3, TX3, 13), by decide +kernel, rfl, wd_522, wd_523, wd_524, by decide, rfl, rfl, okX3_widen⟩
theorem eX9_grows_28 : eb_at mX9_grows 28 29 (.aload_n 0) 1 := ⟨by decide +kernel, rfl⟩
theorem eX9_grows_29 : eb_gf mX9_grows 29 32 8 6 := ⟨63, (RX9, TX9, 9), by decide +kernel, rfl, rfl, by decide, wd_350⟩
theorem eX9_grows_32 : eb_cv mX9_grows 32 35 mX3_solve 0 := ⟨264, (RX3, TX3, 13), by decide +kernel, rfl, wd_311, wd_312, wd_313, by decide, rfl, rfl, okX3_solve⟩
theorem eX9_grows_35 : eb_at mX9_grows 35 36 (.aload_n 0) 1 := ⟨by decide +kernel, rfl⟩
theorem eX9_grows_36 : eb_gf mX9_grows 36 39 8 6 := ⟨63, (RX9, TX9, 9), by decide +kernel, rfl, rfl, by decide, wd_350⟩
theorem eX9_grows_39 : eb_gf mX9_grows 39 42 3 12 := ⟨285, (RX3, TX3, 13), by decide +kernel, rfl, rfl, by decide, wd_215⟩
theorem eX9_grows_42 : eb_at mX9_grows 42 43 (.aload_n 0) 1 := ⟨by decide +kernel, rfl⟩
theorem eX9_grows_43 : eb_gf mX9_grows 43 46 8 5 := ⟨59, (RX9, TX9, 9), by decide +kernel, rfl, rfl, by decide, wd_349⟩
theorem eX9_grows_46 : eb_gf mX9_grows 46 49 3 12 := ⟨285, (RX3, TX3, 13), by decide +kernel, rfl, rfl, by decide, wd_215⟩
theorem eX9_grows_49 : eb_at mX9_grows 49 50 (.lcmp) 1 := ⟨by decide +kernel, rfl⟩
theorem eX9_grows_50 : eb_at mX9_grows 50 53 (.ifCond .eq 5) 3 := ⟨by decide +kernel, rfl⟩
theorem eX9_grows_53 : eb_at mX9_grows 53 54 (.iload_n 2) 1 := ⟨by decide +kernel, rfl⟩
theorem eX9_grows_54 : eb_at mX9_grows 54 55 (.ireturn) 1 := ⟨by decide +kernel, rfl⟩
theorem eX9_grows_55 : eb_at mX9_grows 55 58 (.iinc 2 1) 3 := ⟨by decide +kernel, rfl⟩
theorem eX9_grows_58 : eb_at mX9_grows 58 61 (.goto (-45)) 3 := ⟨by decide +kernel, rfl⟩
theorem eX9_grows_61 : eb_at mX9_grows 61 62 (.iconst (-1)) 1 := ⟨by decide +kernel, rfl⟩
theorem eX9_grows_62 : eb_at mX9_grows 62 63 (.ireturn) 1 := ⟨by decide +kernel, rfl⟩
theorem eX9_init_0 : eb_at mX9_init 0 1 (.aload_n 0) 1 := ⟨by decide +kernel, rfl⟩
theorem eX9_init_1 : eb_at mX9_init 1 4 (.invokespecial 3) 3 := ⟨by decide +kernel, rfl⟩
theorem eX9_init_4 : eb_at mX9_init 4 5 (.aload_n 0) 1 := ⟨by decide +kernel, rfl⟩
theorem eX9_init_5 : eb_nw_at mX9_init 5 8 6 [.null, .int (eb_I 0), .int (eb_I 0), .int (eb_I 0), .int (eb_I 0), .int (eb_I 0)] 6 := ⟨9, (RX7, TX7, 6), by decide +kernel, rfl, rfl, rfl, wd_73, wd_74, wd_53, by decide +kernel⟩
theorem eX9_init_8 : eb_at mX9_init 8 9 (.dup) 1 := ⟨by decide +kernel, rfl⟩
theorem eX9_init_9 : eb_cc mX9_init 9 12 mX7_init 0 := ⟨11, by decide +kernel, rfl, Or.inr ⟨"EvenBreaks", List.mem_filter.mpr ⟨List.mem_of_getElem? (i := 75) (by decide +kernel), rfl⟩⟩, rfl, wd_76, by decide, rfl, okX7_init⟩
theorem eX9_init_12 : eb_pf mX9_init 12 15 8 0 true (.object "EvenBreaks$Text") := ⟨12, (RX9, TX9, 9), by decide +kernel, rfl, rfl, by decide, wd_344, rfl, by decide +kernel, fun _ => ⟨rfl, rfl⟩⟩
theorem eX9_init_15 : eb_at mX9_init 15 16 (.aload_n 0) 1 := ⟨by decide +kernel, rfl⟩
theorem eX9_init_16 : eb_nw_at mX9_init 16 19 7 [.null, .null, .int (eb_I 0), .int (eb_I 0), .int (eb_I 0)] 5 := ⟨16, (RX8, TX8, 5), by decide +kernel, rfl, rfl, rfl, wd_111, wd_112, wd_54, by decide +kernel⟩
theorem eX9_init_19 : eb_at mX9_init 19 20 (.dup) 1 := ⟨by decide +kernel, rfl⟩
theorem eX9_init_20 : eb_cc mX9_init 20 23 mX8_init 0 := ⟨18, by decide +kernel, rfl, Or.inr ⟨"EvenBreaks", List.mem_filter.mpr ⟨List.mem_of_getElem? (i := 113) (by decide +kernel), rfl⟩⟩, rfl, wd_114, by decide, rfl, okX8_init⟩
theorem eX9_init_23 : eb_pf mX9_init 23 26 8 1 true (.object "EvenBreaks$Typed") := ⟨19, (RX9, TX9, 9), by decide +kernel, rfl, rfl, by decide, wd_345, rfl, by decide +kernel, fun _ => ⟨rfl, rfl⟩⟩
theorem eX9_init_26 : eb_at mX9_init 26 27 (.aload_n 0) 1 := ⟨by decide +kernel, rfl⟩
theorem eX9_init_27 : eb_nw_at mX9_init 27 30 4 [.null, .int (eb_I 0), .int (eb_I 0)] 3 := ⟨23, (RX4, TX4, 3), by decide +kernel, rfl, rfl, rfl, wd_138, wd_139, wd_55, by decide +kernel⟩
theorem eX9_init_30 : eb_at mX9_init 30 31 (.dup) 1 := ⟨by decide +kernel, rfl⟩
theorem eX9_init_31 : eb_cc mX9_init 31 34 mX4_init 0 := ⟨25, by decide +kernel, rfl, Or.inl wd_140, rfl, wd_141, by decide, rfl, okX4_init⟩
theorem eX9_init_34 : eb_pf mX9_init 34 37 8 2 true (.object "EvenBreaks$Past") := ⟨26, (RX9, TX9, 9), by decide +kernel, rfl, rfl, by decide, wd_346, rfl, by decide +kernel, fun _ => ⟨rfl, rfl⟩⟩
theorem eX9_init_37 : eb_at mX9_init 37 38 (.aload_n 0) 1 := ⟨by decide +kernel, rfl⟩
theorem eX9_init_38 : eb_nw_at mX9_init 38 41 1 [.int (eb_I 0)] 1 := ⟨30, (RX1, TX1, 1), by decide +kernel, rfl, rfl, rfl, wd_158, wd_159, wd_56, by decide +kernel⟩
theorem eX9_init_41 : eb_at mX9_init 41 42 (.dup) 1 := ⟨by decide +kernel, rfl⟩
theorem eX9_init_42 : eb_cc mX9_init 42 45 mX1_init 0 := ⟨32, by decide +kernel, rfl, Or.inr ⟨"EvenBreaks", List.mem_filter.mpr ⟨List.mem_of_getElem? (i := 160) (by decide +kernel), rfl⟩⟩, rfl, wd_161, by decide, rfl, okX1_init⟩
theorem eX9_init_45 : eb_pf mX9_init 45 48 8 3 true (.object "EvenBreaks$Draws") := ⟨33, (RX9, TX9, 9), by decide +kernel, rfl, rfl, by decide, wd_347, rfl, by decide +kernel, fun _ => ⟨rfl, rfl⟩⟩
theorem eX9_init_48 : eb_at mX9_init 48 49 (.aload_n 0) 1 := ⟨by decide +kernel, rfl⟩
theorem eX9_init_49 : eb_at mX9_init 49 50 (.iconst 2) 1 := ⟨by decide +kernel, rfl⟩
theorem eX9_init_50 : eb_at mX9_init 50 53 (.anewarray 37) 3 := ⟨by decide +kernel, rfl⟩
theorem eX9_init_53 : eb_pf mX9_init 53 56 8 4 true (.array (.object "EvenBreaks$Image")) := ⟨39, (RX9, TX9, 9), by decide +kernel, rfl, rfl, by decide, wd_348, rfl, by decide +kernel, fun _ => ⟨rfl, rfl⟩⟩
theorem eX9_init_56 : eb_at mX9_init 56 57 (.aload_n 0) 1 := ⟨by decide +kernel, rfl⟩
theorem eX9_init_57 : eb_nw_at mX9_init 57 60 0 [.null, .null, .int (eb_I 0)] 3 := ⟨43, (RX0, TX0, 3), by decide +kernel, rfl, rfl, rfl, wd_171, wd_172, wd_57, by decide +kernel⟩
theorem eX9_init_60 : eb_at mX9_init 60 61 (.dup) 1 := ⟨by decide +kernel, rfl⟩
theorem eX9_init_61 : eb_cc mX9_init 61 64 mX0_init 0 := ⟨45, by decide +kernel, rfl, Or.inr ⟨"EvenBreaks", List.mem_filter.mpr ⟨List.mem_of_getElem? (i := 173) (by decide +kernel), rfl⟩⟩, rfl, wd_174, by decide, rfl, okX0_init⟩
theorem eX9_init_64 : eb_pf mX9_init 64 67 8 8 true (.object "EvenBreaks$Book") := ⟨46, (RX9, TX9, 9), by decide +kernel, rfl, rfl, by decide, wd_352, rfl, by decide +kernel, fun _ => ⟨rfl, rfl⟩⟩
theorem eX9_init_67 : eb_cs mX9_init 67 70 mX9_tableOfRoots 0 := ⟨50, by decide +kernel, rfl, wd_188, wd_189, by decide, okX9_tableOfRoots⟩
theorem eX9_init_70 : eb_at mX9_init 70 71 (.astore_n 1) 1 := ⟨by decide +kernel, rfl⟩
theorem eX9_init_71 : eb_at mX9_init 71 72 (.aload_n 0) 1 := ⟨by decide +kernel, rfl⟩
theorem eX9_init_72 : eb_nw_at mX9_init 72 75 3 [.null, .null, .null, .null, .null, .null, .int (eb_I 0), .int (eb_I 0), .int (eb_I 0), .int (eb_I 0), .int (eb_I 0), .int (eb_I 0), .long (eb_J 0)] 13 := ⟨54, (RX3, TX3, 13), by decide +kernel, rfl, rfl, rfl, wd_191, wd_192, wd_58, by decide +kernel⟩
theorem eX9_init_75 : eb_at mX9_init 75 76 (.dup) 1 := ⟨by decide +kernel, rfl⟩
theorem eX9_init_76 : eb_at mX9_init 76 77 (.aload_n 1) 1 := ⟨by decide +kernel, rfl⟩
theorem eX9_init_77 : eb_cc mX9_init 77 80 mX3_init 1 := ⟨56, by decide +kernel, rfl, Or.inl wd_193, rfl, wd_194, by decide, rfl, okX3_init⟩
theorem eX9_init_80 : eb_pf mX9_init 80 83 8 5 true (.object "EvenBreaks$Layout") := ⟨59, (RX9, TX9, 9), by decide +kernel, rfl, rfl, by decide, wd_349, rfl, by decide +kernel, fun _ => ⟨rfl, rfl⟩⟩
theorem eX9_init_83 : eb_at mX9_init 83 84 (.aload_n 0) 1 := ⟨by decide +kernel, rfl⟩
theorem eX9_init_84 : eb_nw_at mX9_init 84 87 3 [.null, .null, .null, .null, .null, .null, .int (eb_I 0), .int (eb_I 0), .int (eb_I 0), .int (eb_I 0), .int (eb_I 0), .int (eb_I 0), .long (eb_J 0)] 13 := ⟨54, (RX3, TX3, 13), by decide +kernel, rfl, rfl, rfl, wd_191, wd_192, wd_58, by decide +kernel⟩
theorem eX9_init_87 : eb_at mX9_init 87 88 (.dup) 1 := ⟨by decide +kernel, rfl⟩
theorem eX9_init_88 : eb_at mX9_init 88 89 (.aload_n 1) 1 := ⟨by decide +kernel, rfl⟩
theorem eX9_init_89 : eb_cc mX9_init 89 92 mX3_init 1 := ⟨56, by decide +kernel, rfl, Or.inl wd_193, rfl, wd_194, by decide, rfl, okX3_init⟩
theorem eX9_init_92 : eb_pf mX9_init 92 95 8 6 true (.object "EvenBreaks$Layout") := ⟨63, (RX9, TX9, 9), by decide +kernel, rfl, rfl, by decide, wd_350, rfl, by decide +kernel, fun _ => ⟨rfl, rfl⟩⟩
theorem eX9_init_95 : eb_at mX9_init 95 96 (.aload_n 0) 1 := ⟨by decide +kernel, rfl⟩
theorem eX9_init_96 : eb_nw_at mX9_init 96 99 5 [.null, .null, .int (eb_I 0), .int (eb_I 0), .long (eb_J 0), .long (eb_J 0)] 6 := ⟨66, (RX6, TX6, 6), by decide +kernel, rfl, rfl, rfl, wd_243, wd_244, wd_59, by decide +kernel⟩
theorem eX9_init_99 : eb_at mX9_init 99 100 (.dup) 1 := ⟨by decide +kernel, rfl⟩
theorem eX9_init_100 : eb_cc mX9_init 100 103 mX6_init 0 := ⟨68, by decide +kernel, rfl, Or.inr ⟨"EvenBreaks", List.mem_filter.mpr ⟨List.mem_of_getElem? (i := 245) (by decide +kernel), rfl⟩⟩, rfl, wd_246, by decide, rfl, okX6_init⟩
theorem eX9_init_103 : eb_pf mX9_init 103 106 8 7 true (.object "EvenBreaks$Survey") := ⟨69, (RX9, TX9, 9), by decide +kernel, rfl, rfl, by decide, wd_351, rfl, by decide +kernel, fun _ => ⟨rfl, rfl⟩⟩
theorem eX9_init_106 : eb_at mX9_init 106 107 (.iconst 0) 1 := ⟨by decide +kernel, rfl⟩
theorem eX9_init_107 : eb_at mX9_init 107 108 (.istore_n 2) 1 := ⟨by decide +kernel, rfl⟩
theorem eX9_init_108 : eb_at mX9_init 108 109 (.iload_n 2) 1 := ⟨by decide +kernel, rfl⟩
theorem eX9_init_109 : eb_at mX9_init 109 110 (.iconst 2) 1 := ⟨by decide +kernel, rfl⟩
theorem eX9_init_110 : eb_at mX9_init 110 113 (.if_icmp .ge 22) 3 := ⟨by decide +kernel, rfl⟩
theorem eX9_init_113 : eb_at mX9_init 113 114 (.aload_n 0) 1 := ⟨by decide +kernel, rfl⟩
theorem eX9_init_114 : eb_gf mX9_init 114 117 8 4 := ⟨39, (RX9, TX9, 9), by decide +kernel, rfl, rfl, by decide, wd_348⟩
theorem eX9_init_117 : eb_at mX9_init 117 118 (.iload_n 2) 1 := ⟨by decide +kernel, rfl⟩
theorem eX9_init_118 : eb_nw_at mX9_init 118 121 2 [.null, .int (eb_I 0), .int (eb_I 0)] 3 := ⟨37, (RX2, TX2, 3), by decide +kernel, rfl, rfl, rfl, wd_169, wd_271, wd_60, by decide +kernel⟩
theorem eX9_init_121 : eb_at mX9_init 121 122 (.dup) 1 := ⟨by decide +kernel, rfl⟩
theorem eX9_init_122 : eb_cc mX9_init 122 125 mX2_init 0 := ⟨73, by decide +kernel, rfl, Or.inr ⟨"EvenBreaks", List.mem_filter.mpr ⟨List.mem_of_getElem? (i := 272) (by decide +kernel), rfl⟩⟩, rfl, wd_273, by decide, rfl, okX2_init⟩
theorem eX9_init_125 : eb_at mX9_init 125 126 (.aastore) 1 := ⟨by decide +kernel, rfl⟩
theorem eX9_init_126 : eb_at mX9_init 126 129 (.iinc 2 1) 3 := ⟨by decide +kernel, rfl⟩
theorem eX9_init_129 : eb_at mX9_init 129 132 (.goto (-21)) 3 := ⟨by decide +kernel, rfl⟩
theorem eX9_init_132 : eb_at mX9_init 132 133 (.aload_n 0) 1 := ⟨by decide +kernel, rfl⟩
theorem eX9_init_133 : eb_cv mX9_init 133 136 mX9_layAnew 0 := ⟨74, (RX9, TX9, 9), by decide +kernel, rfl, wd_291, wd_293, wd_0, by decide, rfl, rfl, okX9_layAnew⟩
theorem eX9_init_136 : eb_at mX9_init 136 137 (.return_) 1 := ⟨by decide +kernel, rfl⟩
theorem eX9_insert_0 : eb_at mX9_insert 0 1 (.aload_n 0) 1 := ⟨by decide +kernel, rfl⟩
theorem eX9_insert_1 : eb_gf mX9_insert 1 4 8 0 := ⟨12, (RX9, TX9, 9), by decide +kernel, rfl, rfl, by decide, wd_344⟩
theorem eX9_insert_4 : eb_at mX9_insert 4 5 (.iload_n 1) 1 := ⟨by decide +kernel, rfl⟩
theorem eX9_insert_5 : eb_cv mX9_insert 5 8 mX7_hasEnd 1 := ⟨184, (RX7, TX7, 6), by decide +kernel, rfl, wd_531, wd_532, wd_533, by decide, rfl, rfl, okX7_hasEnd⟩
theorem eX9_insert_8 : eb_at mX9_insert 8 11 (.ifCond .ne 6) 3 := ⟨by decide +kernel, rfl⟩
theorem eX9_insert_11 : eb_at mX9_insert 11 13 (.ldc 163) 2 := ⟨by decide +kernel, rfl⟩
theorem eX9_insert_13 : eb_at mX9_insert 13 14 (.ireturn) 1 := ⟨by decide +kernel, rfl⟩
theorem eX9_insert_14 : eb_at mX9_insert 14 15 (.aload_n 0) 1 := ⟨by decide +kernel, rfl⟩
theorem eX9_insert_15 : eb_cv mX9_insert 15 18 mX9_readOneWord 0 := ⟨209, (RX9, TX9, 9), by decide +kernel, rfl, wd_555, wd_557, wd_15, by decide, rfl, rfl, okX9_readOneWord⟩
theorem eX9_insert_18 : eb_at mX9_insert 18 19 (.istore_n 2) 1 := ⟨by decide +kernel, rfl⟩
theorem eX9_insert_19 : eb_at mX9_insert 19 20 (.iload_n 2) 1 := ⟨by decide +kernel, rfl⟩
theorem eX9_insert_20 : eb_at mX9_insert 20 23 (.ifCond .eq 5) 3 := ⟨by decide +kernel, rfl⟩
theorem eX9_insert_23 : eb_at mX9_insert 23 24 (.iload_n 2) 1 := ⟨by decide +kernel, rfl⟩
theorem eX9_insert_24 : eb_at mX9_insert 24 25 (.ireturn) 1 := ⟨by decide +kernel, rfl⟩
theorem eX9_insert_25 : eb_at mX9_insert 25 26 (.aload_n 0) 1 := ⟨by decide +kernel, rfl⟩
theorem eX9_insert_26 : eb_gf mX9_insert 26 29 8 0 := ⟨12, (RX9, TX9, 9), by decide +kernel, rfl, rfl, by decide, wd_344⟩
theorem eX9_insert_29 : eb_gf mX9_insert 29 32 6 1 := ⟨102, (RX7, TX7, 6), by decide +kernel, rfl, rfl, by decide, wd_84⟩
theorem eX9_insert_32 : eb_at mX9_insert 32 34 (.bipush 40) 2 := ⟨by decide +kernel, rfl⟩
theorem eX9_insert_34 : eb_at mX9_insert 34 37 (.if_icmp .lt 6) 3 := ⟨by decide +kernel, rfl⟩
theorem eX9_insert_37 : eb_at mX9_insert 37 39 (.ldc 212) 2 := ⟨by decide +kernel, rfl⟩
theorem eX9_insert_39 : eb_at mX9_insert 39 40 (.ireturn) 1 := ⟨by decide +kernel, rfl⟩
theorem eX9_insert_40 : eb_at mX9_insert 40 41 (.aload_n 0) 1 := ⟨by decide +kernel, rfl⟩
theorem eX9_insert_41 : eb_gf mX9_insert 41 44 8 2 := ⟨26, (RX9, TX9, 9), by decide +kernel, rfl, rfl, by decide, wd_346⟩
theorem eX9_insert_44 : eb_at mX9_insert 44 45 (.aload_n 0) 1 := ⟨by decide +kernel, rfl⟩
theorem eX9_insert_45 : eb_gf mX9_insert 45 48 8 0 := ⟨12, (RX9, TX9, 9), by decide +kernel, rfl, rfl, by decide, wd_344⟩
theorem eX9_insert_48 : eb_cv mX9_insert 48 51 mX4_remember 1 := ⟨86, (RX4, TX4, 3), by decide +kernel, rfl, wd_401, wd_402, wd_403, by decide, rfl, rfl, okX4_remember⟩
theorem eX9_insert_51 : eb_at mX9_insert 51 52 (.aload_n 0) 1 := ⟨by decide +kernel, rfl⟩
theorem eX9_insert_52 : eb_gf mX9_insert 52 55 8 0 := ⟨12, (RX9, TX9, 9), by decide +kernel, rfl, rfl, by decide, wd_344⟩
theorem eX9_insert_55 : eb_at mX9_insert 55 56 (.iload_n 1) 1 := ⟨by decide +kernel, rfl⟩
theorem eX9_insert_56 : eb_at mX9_insert 56 57 (.aload_n 0) 1 := ⟨by decide +kernel, rfl⟩
theorem eX9_insert_57 : eb_gf mX9_insert 57 60 8 1 := ⟨19, (RX9, TX9, 9), by decide +kernel, rfl, rfl, by decide, wd_345⟩
theorem eX9_insert_60 : eb_gf mX9_insert 60 63 7 1 := ⟨90, (RX8, TX8, 5), by decide +kernel, rfl, rfl, by decide, wd_119⟩
theorem eX9_insert_63 : eb_at mX9_insert 63 64 (.iconst 0) 1 := ⟨by decide +kernel, rfl⟩
theorem eX9_insert_64 : eb_at mX9_insert 64 65 (.laload) 1 := ⟨by decide +kernel, rfl⟩
theorem eX9_insert_65 : eb_cv mX9_insert 65 68 mX7_putIn 2 := ⟨213, (RX7, TX7, 6), by decide +kernel, rfl, wd_565, wd_566, wd_567, by decide, rfl, rfl, okX7_putIn⟩
theorem eX9_insert_68 : eb_at mX9_insert 68 69 (.aload_n 0) 1 := ⟨by decide +kernel, rfl⟩
theorem eX9_insert_69 : eb_cv mX9_insert 69 72 mX9_layAnew 0 := ⟨74, (RX9, TX9, 9), by decide +kernel, rfl, wd_291, wd_293, wd_0, by decide, rfl, rfl, okX9_layAnew⟩
theorem eX9_insert_72 : eb_at mX9_insert 72 73 (.aload_n 0) 1 := ⟨by decide +kernel, rfl⟩
theorem eX9_insert_73 : eb_gf mX9_insert 73 76 8 1 := ⟨19, (RX9, TX9, 9), by decide +kernel, rfl, rfl, by decide, wd_345⟩
theorem eX9_insert_76 : eb_gf mX9_insert 76 79 7 1 := ⟨90, (RX8, TX8, 5), by decide +kernel, rfl, rfl, by decide, wd_119⟩
theorem eX9_insert_79 : eb_at mX9_insert 79 80 (.iconst 0) 1 := ⟨by decide +kernel, rfl⟩
theorem eX9_insert_80 : eb_at mX9_insert 80 81 (.laload) 1 := ⟨by decide +kernel, rfl⟩
theorem eX9_insert_81 : eb_cs mX9_insert 81 84 mX5_widthOf 1 := ⟨165, by decide +kernel, rfl, wd_512, wd_300, by decide, okX5_widthOf⟩
theorem eX9_insert_84 : eb_at mX9_insert 84 85 (.ireturn) 1 := ⟨by decide +kernel, rfl⟩
theorem eX9_keep_0 : eb_at mX9_keep 0 1 (.iload_n 1) 1 := ⟨by decide +kernel, rfl⟩
theorem eX9_keep_1 : eb_at mX9_keep 1 4 (.ifCond .lt 8) 3 := ⟨by decide +kernel, rfl⟩
theorem eX9_keep_4 : eb_at mX9_keep 4 5 (.iload_n 1) 1 := ⟨by decide +kernel, rfl⟩
theorem eX9_keep_5 : eb_at mX9_keep 5 6 (.iconst 2) 1 := ⟨by decide +kernel, rfl⟩
theorem eX9_keep_6 : eb_at mX9_keep 6 9 (.if_icmp .lt 6) 3 := ⟨by decide +kernel, rfl⟩
theorem eX9_keep_9 : eb_at mX9_keep 9 11 (.ldc 163) 2 := ⟨by decide +kernel, rfl⟩
theorem eX9_keep_11 : eb_at mX9_keep 11 12 (.ireturn) 1 := ⟨by decide +kernel, rfl⟩
theorem eX9_keep_12 : eb_at mX9_keep 12 13 (.aload_n 0) 1 := ⟨by decide +kernel, rfl⟩
theorem eX9_keep_13 : eb_gf mX9_keep 13 16 8 4 := ⟨39, (RX9, TX9, 9), by decide +kernel, rfl, rfl, by decide, wd_348⟩
theorem eX9_keep_16 : eb_at mX9_keep 16 17 (.iload_n 1) 1 := ⟨by decide +kernel, rfl⟩
theorem eX9_keep_17 : eb_at mX9_keep 17 18 (.aaload) 1 := ⟨by decide +kernel, rfl⟩
theorem eX9_keep_18 : eb_gf mX9_keep 18 21 2 0 := ⟨253, (RX2, TX2, 3), by decide +kernel, rfl, rfl, by decide, wd_279⟩
theorem eX9_keep_21 : eb_at mX9_keep 21 22 (.aload_n 0) 1 := ⟨by decide +kernel, rfl⟩
theorem eX9_keep_22 : eb_gf mX9_keep 22 25 8 0 := ⟨12, (RX9, TX9, 9), by decide +kernel, rfl, rfl, by decide, wd_344⟩
theorem eX9_keep_25 : eb_cv mX9_keep 25 28 mX7_become 1 := ⟨254, (RX7, TX7, 6), by decide +kernel, rfl, wd_693, wd_406, wd_407, by decide, rfl, rfl, okX7_become⟩
theorem eX9_keep_28 : eb_at mX9_keep 28 29 (.aload_n 0) 1 := ⟨by decide +kernel, rfl⟩
theorem eX9_keep_29 : eb_gf mX9_keep 29 32 8 4 := ⟨39, (RX9, TX9, 9), by decide +kernel, rfl, rfl, by decide, wd_348⟩
theorem eX9_keep_32 : eb_at mX9_keep 32 33 (.iload_n 1) 1 := ⟨by decide +kernel, rfl⟩
theorem eX9_keep_33 : eb_at mX9_keep 33 34 (.aaload) 1 := ⟨by decide +kernel, rfl⟩
theorem eX9_keep_34 : eb_at mX9_keep 34 35 (.aload_n 0) 1 := ⟨by decide +kernel, rfl⟩
theorem eX9_keep_35 : eb_gf mX9_keep 35 38 8 3 := ⟨33, (RX9, TX9, 9), by decide +kernel, rfl, rfl, by decide, wd_347⟩
theorem eX9_keep_38 : eb_gf mX9_keep 38 41 1 0 := ⟨250, (RX1, TX1, 1), by decide +kernel, rfl, rfl, by decide, wd_165⟩
theorem eX9_keep_41 : eb_pf mX9_keep 41 44 2 1 false .int := ⟨257, (RX2, TX2, 3), by decide +kernel, rfl, rfl, by decide, wd_281, rfl, by decide +kernel, fun h => absurd h (by decide)⟩
theorem eX9_keep_44 : eb_at mX9_keep 44 45 (.aload_n 0) 1 := ⟨by decide +kernel, rfl⟩
theorem eX9_keep_45 : eb_gf mX9_keep 45 48 8 4 := ⟨39, (RX9, TX9, 9), by decide +kernel, rfl, rfl, by decide, wd_348⟩
theorem eX9_keep_48 : eb_at mX9_keep 48 49 (.iload_n 1) 1 := ⟨by decide +kernel, rfl⟩
theorem eX9_keep_49 : eb_at mX9_keep 49 50 (.aaload) 1 := ⟨by decide +kernel, rfl⟩
theorem eX9_keep_50 : eb_at mX9_keep 50 51 (.iconst 1) 1 := ⟨by decide +kernel, rfl⟩
theorem eX9_keep_51 : eb_pf mX9_keep 51 54 2 2 false .boolean := ⟨258, (RX2, TX2, 3), by decide +kernel, rfl, rfl, by decide, wd_283, rfl, by decide +kernel, fun h => absurd h (by decide)⟩
theorem eX9_keep_54 : eb_at mX9_keep 54 55 (.aload_n 0) 1 := ⟨by decide +kernel, rfl⟩
theorem eX9_keep_55 : eb_gf mX9_keep 55 58 8 2 := ⟨26, (RX9, TX9, 9), by decide +kernel, rfl, rfl, by decide, wd_346⟩
theorem eX9_keep_58 : eb_at mX9_keep 58 59 (.iconst 0) 1 := ⟨by decide +kernel, rfl⟩
theorem eX9_keep_59 : eb_pf mX9_keep 59 62 4 2 false .int := ⟨158, (RX4, TX4, 3), by decide +kernel, rfl, rfl, by decide, wd_150, rfl, by decide +kernel, fun h => absurd h (by decide)⟩
theorem eX9_keep_62 : eb_at mX9_keep 62 63 (.iconst 1) 1 := ⟨by decide +kernel, rfl⟩
theorem eX9_keep_63 : eb_at mX9_keep 63 64 (.ireturn) 1 := ⟨by decide +kernel, rfl⟩
theorem eX9_known_0 : eb_at mX9_known 0 1 (.aload_n 0) 1 := ⟨by decide +kernel, rfl⟩
theorem eX9_known_1 : eb_gf mX9_known 1 4 8 0 := ⟨12, (RX9, TX9, 9), by decide +kernel, rfl, rfl, by decide, wd_344⟩
theorem eX9_known_4 : eb_at mX9_known 4 5 (.iload_n 1) 1 := ⟨by decide +kernel, rfl⟩
theorem eX9_known_5 : eb_cv mX9_known 5 8 mX7_hasEnd 1 := ⟨184, (RX7, TX7, 6), by decide +kernel, rfl, wd_531, wd_532, wd_533, by decide, rfl, rfl, okX7_hasEnd⟩
theorem eX9_known_8 : eb_at mX9_known 8 11 (.ifCond .eq 19) 3 := ⟨by decide +kernel, rfl⟩
theorem eX9_known_11 : eb_at mX9_known 11 12 (.aload_n 0) 1 := ⟨by decide +kernel, rfl⟩
theorem eX9_known_12 : eb_gf mX9_known 12 15 8 0 := ⟨12, (RX9, TX9, 9), by decide +kernel, rfl, rfl, by decide, wd_344⟩
theorem eX9_known_15 : eb_at mX9_known 15 16 (.iload_n 2) 1 := ⟨by decide +kernel, rfl⟩
theorem eX9_known_16 : eb_cv mX9_known 16 19 mX7_hasEnd 1 := ⟨184, (RX7, TX7, 6), by decide +kernel, rfl, wd_531, wd_532, wd_533, by decide, rfl, rfl, okX7_hasEnd⟩
theorem eX9_known_19 : eb_at mX9_known 19 22 (.ifCond .eq 8) 3 := ⟨by decide +kernel, rfl⟩
theorem eX9_known_22 : eb_at mX9_known 22 23 (.iload_n 2) 1 := ⟨by decide +kernel, rfl⟩
theorem eX9_known_23 : eb_at mX9_known 23 24 (.iload_n 1) 1 := ⟨by decide +kernel, rfl⟩
theorem eX9_known_24 : eb_at mX9_known 24 27 (.if_icmp .lt 6) 3 := ⟨by decide +kernel, rfl⟩
theorem eX9_known_27 : eb_at mX9_known 27 29 (.ldc 163) 2 := ⟨by decide +kernel, rfl⟩
theorem eX9_known_29 : eb_at mX9_known 29 30 (.ireturn) 1 := ⟨by decide +kernel, rfl⟩
theorem eX9_known_30 : eb_at mX9_known 30 31 (.aload_n 0) 1 := ⟨by decide +kernel, rfl⟩
theorem eX9_known_31 : eb_gf mX9_known 31 34 8 5 := ⟨59, (RX9, TX9, 9), by decide +kernel, rfl, rfl, by decide, wd_349⟩
theorem eX9_known_34 : eb_at mX9_known 34 35 (.iload_n 1) 1 := ⟨by decide +kernel, rfl⟩
theorem eX9_known_35 : eb_at mX9_known 35 36 (.iload_n 2) 1 := ⟨by decide +kernel, rfl⟩
theorem eX9_known_36 : eb_cv mX9_known 36 39 mX3_ownerKnownTo 2 := ⟨229, (RX3, TX3, 13), by decide +kernel, rfl, wd_637, wd_540, wd_541, by decide, rfl, rfl, okX3_ownerKnownTo⟩
theorem eX9_known_39 : eb_at mX9_known 39 40 (.ireturn) 1 := ⟨by decide +kernel, rfl⟩
theorem eX9_layAnew_0 : eb_at mX9_layAnew 0 1 (.aload_n 0) 1 := ⟨by decide +kernel, rfl⟩
theorem eX9_layAnew_1 : eb_gf mX9_layAnew 1 4 8 5 := ⟨59, (RX9, TX9, 9), by decide +kernel, rfl, rfl, by decide, wd_349⟩
theorem eX9_layAnew_4 : eb_at mX9_layAnew 4 5 (.aload_n 0) 1 := ⟨by decide +kernel, rfl⟩
theorem eX9_layAnew_5 : eb_gf mX9_layAnew 5 8 8 0 := ⟨12, (RX9, TX9, 9), by decide +kernel, rfl, rfl, by decide, wd_344⟩
theorem eX9_layAnew_8 : eb_cv mX9_layAnew 8 11 mX3_load 1 := ⟨261, (RX3, TX3, 13), by decide +kernel, rfl, wd_295, wd_296, wd_297, by decide, rfl, rfl, okX3_load⟩
theorem eX9_layAnew_11 : eb_at mX9_layAnew 11 12 (.aload_n 0) 1 := ⟨by decide +kernel, rfl⟩
theorem eX9_layAnew_12 : eb_gf mX9_layAnew 12 15 8 5 := ⟨59, (RX9, TX9, 9), by decide +kernel, rfl, rfl, by decide, wd_349⟩
theorem eX9_layAnew_15 : eb_cv mX9_layAnew 15 18 mX3_solve 0 := ⟨264, (RX3, TX3, 13), by decide +kernel, rfl, wd_311, wd_312, wd_313, by decide, rfl, rfl, okX3_solve⟩
theorem eX9_layAnew_18 : eb_at mX9_layAnew 18 19 (.aload_n 0) 1 := ⟨by decide +kernel, rfl⟩
theorem eX9_layAnew_19 : eb_gf mX9_layAnew 19 22 8 7 := ⟨69, (RX9, TX9, 9), by decide +kernel, rfl, rfl, by decide, wd_351⟩
theorem eX9_layAnew_22 : eb_at mX9_layAnew 22 23 (.iconst 0) 1 := ⟨by decide +kernel, rfl⟩
theorem eX9_layAnew_23 : eb_pf mX9_layAnew 23 26 5 2 false .boolean := ⟨267, (RX6, TX6, 6), by decide +kernel, rfl, rfl, by decide, wd_253, rfl, by decide +kernel, fun h => absurd h (by decide)⟩
theorem eX9_layAnew_26 : eb_at mX9_layAnew 26 27 (.return_) 1 := ⟨by decide +kernel, rfl⟩
theorem eX9_line_0 : eb_at mX9_line 0 1 (.iload_n 1) 1 := ⟨by decide +kernel, rfl⟩
theorem eX9_line_1 : eb_at mX9_line 1 4 (.ifCond .lt 14) 3 := ⟨by decide +kernel, rfl⟩
theorem eX9_line_4 : eb_at mX9_line 4 5 (.iload_n 1) 1 := ⟨by decide +kernel, rfl⟩
theorem eX9_line_5 : eb_at mX9_line 5 6 (.aload_n 0) 1 := ⟨by decide +kernel, rfl⟩
theorem eX9_line_6 : eb_gf mX9_line 6 9 8 5 := ⟨59, (RX9, TX9, 9), by decide +kernel, rfl, rfl, by decide, wd_349⟩
theorem eX9_line_9 : eb_gf mX9_line 9 12 3 11 := ⟨125, (RX3, TX3, 13), by decide +kernel, rfl, rfl, by decide, wd_212⟩
theorem eX9_line_12 : eb_at mX9_line 12 15 (.if_icmp .lt 6) 3 := ⟨by decide +kernel, rfl⟩
theorem eX9_line_15 : eb_at mX9_line 15 17 (.ldc 163) 2 := ⟨by decide +kernel, rfl⟩
theorem eX9_line_17 : eb_at mX9_line 17 18 (.ireturn) 1 := ⟨by decide +kernel, rfl⟩
theorem eX9_line_18 : eb_at mX9_line 18 19 (.aload_n 0) 1 := ⟨by decide +kernel, rfl⟩
theorem eX9_line_19 : eb_gf mX9_line 19 22 8 5 := ⟨59, (RX9, TX9, 9), by decide +kernel, rfl, rfl, by decide, wd_349⟩
theorem eX9_line_22 : eb_at mX9_line 22 23 (.iload_n 1) 1 := ⟨by decide +kernel, rfl⟩
theorem eX9_line_23 : eb_cv mX9_line 23 26 mX3_beginOf 1 := ⟨197, (RX3, TX3, 13), by decide +kernel, rfl, wd_547, wd_449, wd_450, by decide, rfl, rfl, okX3_beginOf⟩
theorem eX9_line_26 : eb_at mX9_line 26 27 (.istore_n 3) 1 := ⟨by decide +kernel, rfl⟩
theorem eX9_line_27 : eb_at mX9_line 27 28 (.aload_n 0) 1 := ⟨by decide +kernel, rfl⟩
theorem eX9_line_28 : eb_gf mX9_line 28 31 8 5 := ⟨59, (RX9, TX9, 9), by decide +kernel, rfl, rfl, by decide, wd_349⟩
theorem eX9_line_31 : eb_at mX9_line 31 32 (.iload_n 1) 1 := ⟨by decide +kernel, rfl⟩
theorem eX9_line_32 : eb_cv mX9_line 32 35 mX3_endOf 1 := ⟨200, (RX3, TX3, 13), by decide +kernel, rfl, wd_548, wd_453, wd_454, by decide, rfl, rfl, okX3_endOf⟩
theorem eX9_line_35 : eb_at mX9_line 35 37 (.istore 4) 2 := ⟨by decide +kernel, rfl⟩
theorem eX9_line_37 : eb_at mX9_line 37 38 (.iload_n 2) 1 := ⟨by decide +kernel, rfl⟩
theorem eX9_line_38 : eb_at mX9_line 38 68 (.tableswitch 57 0 3 #[30, 32, 35, 46]) 30 := ⟨by decide +kernel, rfl⟩
theorem eX9_line_68 : eb_at mX9_line 68 69 (.iload_n 3) 1 := ⟨by decide +kernel, rfl⟩
theorem eX9_line_69 : eb_at mX9_line 69 70 (.ireturn) 1 := ⟨by decide +kernel, rfl⟩
theorem eX9_line_70 : eb_at mX9_line 70 72 (.iload 4) 2 := ⟨by decide +kernel, rfl⟩
theorem eX9_line_72 : eb_at mX9_line 72 73 (.ireturn) 1 := ⟨by decide +kernel, rfl⟩
theorem eX9_line_73 : eb_at mX9_line 73 74 (.aload_n 0) 1 := ⟨by decide +kernel, rfl⟩
theorem eX9_line_74 : eb_gf mX9_line 74 77 8 5 := ⟨59, (RX9, TX9, 9), by decide +kernel, rfl, rfl, by decide, wd_349⟩
theorem eX9_line_77 : eb_at mX9_line 77 78 (.iload_n 3) 1 := ⟨by decide +kernel, rfl⟩
theorem eX9_line_78 : eb_at mX9_line 78 80 (.iload 4) 2 := ⟨by decide +kernel, rfl⟩
theorem eX9_line_80 : eb_cv mX9_line 80 83 mX3_widthOf 2 := ⟨203, (RX3, TX3, 13), by decide +kernel, rfl, wd_549, wd_321, wd_322, by decide, rfl, rfl, okX3_widthOf⟩
theorem eX9_line_83 : eb_at mX9_line 83 84 (.ireturn) 1 := ⟨by decide +kernel, rfl⟩
theorem eX9_line_84 : eb_at mX9_line 84 85 (.aload_n 0) 1 := ⟨by decide +kernel, rfl⟩
theorem eX9_line_85 : eb_gf mX9_line 85 88 8 5 := ⟨59, (RX9, TX9, 9), by decide +kernel, rfl, rfl, by decide, wd_349⟩
theorem eX9_line_88 : eb_at mX9_line 88 89 (.iload_n 3) 1 := ⟨by decide +kernel, rfl⟩
theorem eX9_line_89 : eb_at mX9_line 89 91 (.iload 4) 2 := ⟨by decide +kernel, rfl⟩
theorem eX9_line_91 : eb_cv mX9_line 91 94 mX3_price 2 := ⟨206, (RX3, TX3, 13), by decide +kernel, rfl, wd_550, wd_441, wd_442, by decide, rfl, rfl, okX3_price⟩
theorem eX9_line_94 : eb_at mX9_line 94 95 (.ireturn) 1 := ⟨by decide +kernel, rfl⟩
theorem eX9_line_95 : eb_at mX9_line 95 97 (.ldc 77) 2 := ⟨by decide +kernel, rfl⟩
theorem eX9_line_97 : eb_at mX9_line 97 98 (.ireturn) 1 := ⟨by decide +kernel, rfl⟩
theorem eX9_measure_0 : eb_at mX9_measure 0 1 (.iload_n 1) 1 := ⟨by decide +kernel, rfl⟩
theorem eX9_measure_1 : eb_at mX9_measure 1 2 (.iconst 1) 1 := ⟨by decide +kernel, rfl⟩
theorem eX9_measure_2 : eb_at mX9_measure 2 5 (.if_icmp .lt 10) 3 := ⟨by decide +kernel, rfl⟩
theorem eX9_measure_5 : eb_at mX9_measure 5 6 (.iload_n 1) 1 := ⟨by decide +kernel, rfl⟩
theorem eX9_measure_6 : eb_at mX9_measure 6 9 (.sipush 200) 3 := ⟨by decide +kernel, rfl⟩
theorem eX9_measure_9 : eb_at mX9_measure 9 12 (.if_icmp .le 6) 3 := ⟨by decide +kernel, rfl⟩
theorem eX9_measure_12 : eb_at mX9_measure 12 14 (.ldc 77) 2 := ⟨by decide +kernel, rfl⟩
theorem eX9_measure_14 : eb_at mX9_measure 14 15 (.ireturn) 1 := ⟨by decide +kernel, rfl⟩
theorem eX9_measure_15 : eb_at mX9_measure 15 16 (.aload_n 0) 1 := ⟨by decide +kernel, rfl⟩
theorem eX9_measure_16 : eb_gf mX9_measure 16 19 8 2 := ⟨26, (RX9, TX9, 9), by decide +kernel, rfl, rfl, by decide, wd_346⟩
theorem eX9_measure_19 : eb_at mX9_measure 19 20 (.aload_n 0) 1 := ⟨by decide +kernel, rfl⟩
theorem eX9_measure_20 : eb_gf mX9_measure 20 23 8 0 := ⟨12, (RX9, TX9, 9), by decide +kernel, rfl, rfl, by decide, wd_344⟩
theorem eX9_measure_23 : eb_cv mX9_measure 23 26 mX4_remember 1 := ⟨86, (RX4, TX4, 3), by decide +kernel, rfl, wd_401, wd_402, wd_403, by decide, rfl, rfl, okX4_remember⟩
theorem eX9_measure_26 : eb_at mX9_measure 26 27 (.aload_n 0) 1 := ⟨by decide +kernel, rfl⟩
theorem eX9_measure_27 : eb_gf mX9_measure 27 30 8 0 := ⟨12, (RX9, TX9, 9), by decide +kernel, rfl, rfl, by decide, wd_344⟩
theorem eX9_measure_30 : eb_at mX9_measure 30 31 (.iload_n 1) 1 := ⟨by decide +kernel, rfl⟩
theorem eX9_measure_31 : eb_pf mX9_measure 31 34 6 2 false .int := ⟨108, (RX7, TX7, 6), by decide +kernel, rfl, rfl, by decide, wd_87, rfl, by decide +kernel, fun h => absurd h (by decide)⟩
theorem eX9_measure_34 : eb_at mX9_measure 34 35 (.aload_n 0) 1 := ⟨by decide +kernel, rfl⟩
theorem eX9_measure_35 : eb_cv mX9_measure 35 38 mX9_layAnew 0 := ⟨74, (RX9, TX9, 9), by decide +kernel, rfl, wd_291, wd_293, wd_0, by decide, rfl, rfl, okX9_layAnew⟩
theorem eX9_measure_38 : eb_at mX9_measure 38 39 (.aload_n 0) 1 := ⟨by decide +kernel, rfl⟩
theorem eX9_measure_39 : eb_gf mX9_measure 39 42 8 5 := ⟨59, (RX9, TX9, 9), by decide +kernel, rfl, rfl, by decide, wd_349⟩
theorem eX9_measure_42 : eb_cv mX9_measure 42 45 mX3_lastTotal 0 := ⟨122, (RX3, TX3, 13), by decide +kernel, rfl, wd_428, wd_429, wd_430, by decide, rfl, rfl, okX3_lastTotal⟩
theorem eX9_measure_45 : eb_at mX9_measure 45 46 (.ireturn) 1 := ⟨by decide +kernel, rfl⟩
theorem eX9_readOneWord_0 : eb_at mX9_readOneWord 0 1 (.aload_n 0) 1 := ⟨by decide +kernel, rfl⟩
theorem eX9_readOneWord_1 : eb_gf mX9_readOneWord 1 4 8 1 := ⟨19, (RX9, TX9, 9), by decide +kernel, rfl, rfl, by decide, wd_345⟩
theorem eX9_readOneWord_4 : eb_cv mX9_readOneWord 4 7 mX8_read 0 := ⟨82, (RX8, TX8, 5), by decide +kernel, rfl, wd_386, wd_387, wd_388, by decide, rfl, rfl, okX8_read⟩
theorem eX9_readOneWord_7 : eb_at mX9_readOneWord 7 8 (.istore_n 1) 1 := ⟨by decide +kernel, rfl⟩
theorem eX9_readOneWord_8 : eb_at mX9_readOneWord 8 9 (.iload_n 1) 1 := ⟨by decide +kernel, rfl⟩
theorem eX9_readOneWord_9 : eb_at mX9_readOneWord 9 12 (.ifCond .eq 8) 3 := ⟨by decide +kernel, rfl⟩
theorem eX9_readOneWord_12 : eb_at mX9_readOneWord 12 14 (.bipush (-10)) 2 := ⟨by decide +kernel, rfl⟩
theorem eX9_readOneWord_14 : eb_at mX9_readOneWord 14 15 (.iload_n 1) 1 := ⟨by decide +kernel, rfl⟩
theorem eX9_readOneWord_15 : eb_at mX9_readOneWord 15 16 (.isub) 1 := ⟨by decide +kernel, rfl⟩
theorem eX9_readOneWord_16 : eb_at mX9_readOneWord 16 17 (.ireturn) 1 := ⟨by decide +kernel, rfl⟩
theorem eX9_readOneWord_17 : eb_at mX9_readOneWord 17 18 (.aload_n 0) 1 := ⟨by decide +kernel, rfl⟩
theorem eX9_readOneWord_18 : eb_gf mX9_readOneWord 18 21 8 1 := ⟨19, (RX9, TX9, 9), by decide +kernel, rfl, rfl, by decide, wd_345⟩
theorem eX9_readOneWord_21 : eb_gf mX9_readOneWord 21 24 7 3 := ⟨94, (RX8, TX8, 5), by decide +kernel, rfl, rfl, by decide, wd_123⟩
theorem eX9_readOneWord_24 : eb_at mX9_readOneWord 24 25 (.iconst 1) 1 := ⟨by decide +kernel, rfl⟩
theorem eX9_readOneWord_25 : eb_at mX9_readOneWord 25 28 (.if_icmp .ne 7) 3 := ⟨by decide +kernel, rfl⟩
theorem eX9_readOneWord_28 : eb_at mX9_readOneWord 28 29 (.iconst 0) 1 := ⟨by decide +kernel, rfl⟩
theorem eX9_readOneWord_29 : eb_at mX9_readOneWord 29 32 (.goto 5) 3 := ⟨by decide +kernel, rfl⟩
theorem eX9_readOneWord_32 : eb_at mX9_readOneWord 32 34 (.ldc 224) 2 := ⟨by decide +kernel, rfl⟩
theorem eX9_readOneWord_34 : eb_at mX9_readOneWord 34 35 (.ireturn) 1 := ⟨by decide +kernel, rfl⟩
theorem eX9_rule_0 : eb_at mX9_rule 0 1 (.iload_n 1) 1 := ⟨by decide +kernel, rfl⟩
theorem eX9_rule_1 : eb_at mX9_rule 1 4 (.ifCond .lt 8) 3 := ⟨by decide +kernel, rfl⟩
theorem eX9_rule_4 : eb_at mX9_rule 4 5 (.iload_n 1) 1 := ⟨by decide +kernel, rfl⟩
theorem eX9_rule_5 : eb_at mX9_rule 5 6 (.iconst 4) 1 := ⟨by decide +kernel, rfl⟩
theorem eX9_rule_6 : eb_at mX9_rule 6 9 (.if_icmp .le 6) 3 := ⟨by decide +kernel, rfl⟩
theorem eX9_rule_9 : eb_at mX9_rule 9 11 (.ldc 77) 2 := ⟨by decide +kernel, rfl⟩
theorem eX9_rule_11 : eb_at mX9_rule 11 12 (.ireturn) 1 := ⟨by decide +kernel, rfl⟩
theorem eX9_rule_12 : eb_at mX9_rule 12 13 (.aload_n 0) 1 := ⟨by decide +kernel, rfl⟩
theorem eX9_rule_13 : eb_gf mX9_rule 13 16 8 2 := ⟨26, (RX9, TX9, 9), by decide +kernel, rfl, rfl, by decide, wd_346⟩
theorem eX9_rule_16 : eb_at mX9_rule 16 17 (.aload_n 0) 1 := ⟨by decide +kernel, rfl⟩
theorem eX9_rule_17 : eb_gf mX9_rule 17 20 8 0 := ⟨12, (RX9, TX9, 9), by decide +kernel, rfl, rfl, by decide, wd_344⟩
theorem eX9_rule_20 : eb_cv mX9_rule 20 23 mX4_remember 1 := ⟨86, (RX4, TX4, 3), by decide +kernel, rfl, wd_401, wd_402, wd_403, by decide, rfl, rfl, okX4_remember⟩
theorem eX9_rule_23 : eb_at mX9_rule 23 24 (.aload_n 0) 1 := ⟨by decide +kernel, rfl⟩
theorem eX9_rule_24 : eb_gf mX9_rule 24 27 8 0 := ⟨12, (RX9, TX9, 9), by decide +kernel, rfl, rfl, by decide, wd_344⟩
theorem eX9_rule_27 : eb_at mX9_rule 27 28 (.iload_n 1) 1 := ⟨by decide +kernel, rfl⟩
theorem eX9_rule_28 : eb_pf mX9_rule 28 31 6 3 false .int := ⟨111, (RX7, TX7, 6), by decide +kernel, rfl, rfl, by decide, wd_90, rfl, by decide +kernel, fun h => absurd h (by decide)⟩
theorem eX9_rule_31 : eb_at mX9_rule 31 32 (.aload_n 0) 1 := ⟨by decide +kernel, rfl⟩
theorem eX9_rule_32 : eb_cv mX9_rule 32 35 mX9_layAnew 0 := ⟨74, (RX9, TX9, 9), by decide +kernel, rfl, wd_291, wd_293, wd_0, by decide, rfl, rfl, okX9_layAnew⟩
theorem eX9_rule_35 : eb_at mX9_rule 35 36 (.aload_n 0) 1 := ⟨by decide +kernel, rfl⟩
theorem eX9_rule_36 : eb_gf mX9_rule 36 39 8 5 := ⟨59, (RX9, TX9, 9), by decide +kernel, rfl, rfl, by decide, wd_349⟩
theorem eX9_rule_39 : eb_cv mX9_rule 39 42 mX3_lastTotal 0 := ⟨122, (RX3, TX3, 13), by decide +kernel, rfl, wd_428, wd_429, wd_430, by decide, rfl, rfl, okX3_lastTotal⟩
theorem eX9_rule_42 : eb_at mX9_rule 42 43 (.ireturn) 1 := ⟨by decide +kernel, rfl⟩
theorem eX9_see_0 : eb_at mX9_see 0 1 (.aload_n 0) 1 := ⟨by decide +kernel, rfl⟩
theorem eX9_see_1 : eb_gf mX9_see 1 4 8 0 := ⟨12, (RX9, TX9, 9), by decide +kernel, rfl, rfl, by decide, wd_344⟩
theorem eX9_see_4 : eb_at mX9_see 4 5 (.iload_n 1) 1 := ⟨by decide +kernel, rfl⟩
theorem eX9_see_5 : eb_cv mX9_see 5 8 mX7_hasEnd 1 := ⟨184, (RX7, TX7, 6), by decide +kernel, rfl, wd_531, wd_532, wd_533, by decide, rfl, rfl, okX7_hasEnd⟩
theorem eX9_see_8 : eb_at mX9_see 8 11 (.ifCond .ne 6) 3 := ⟨by decide +kernel, rfl⟩
theorem eX9_see_11 : eb_at mX9_see 11 13 (.ldc 163) 2 := ⟨by decide +kernel, rfl⟩
theorem eX9_see_13 : eb_at mX9_see 13 14 (.ireturn) 1 := ⟨by decide +kernel, rfl⟩
theorem eX9_see_14 : eb_at mX9_see 14 15 (.aload_n 0) 1 := ⟨by decide +kernel, rfl⟩
theorem eX9_see_15 : eb_gf mX9_see 15 18 8 7 := ⟨69, (RX9, TX9, 9), by decide +kernel, rfl, rfl, by decide, wd_351⟩
theorem eX9_see_18 : eb_at mX9_see 18 19 (.iload_n 1) 1 := ⟨by decide +kernel, rfl⟩
theorem eX9_see_19 : eb_at mX9_see 19 20 (.iload_n 2) 1 := ⟨by decide +kernel, rfl⟩
theorem eX9_see_20 : eb_cv mX9_see 20 23 mX6_note 2 := ⟨241, (RX6, TX6, 6), by decide +kernel, rfl, wd_663, wd_664, wd_665, by decide, rfl, rfl, okX6_note⟩
theorem eX9_see_23 : eb_at mX9_see 23 24 (.ireturn) 1 := ⟨by decide +kernel, rfl⟩
theorem eX9_seed_0 : eb_at mX9_seed 0 1 (.iload_n 1) 1 := ⟨by decide +kernel, rfl⟩
theorem eX9_seed_1 : eb_at mX9_seed 1 4 (.ifCond .ge 6) 3 := ⟨by decide +kernel, rfl⟩
theorem eX9_seed_4 : eb_at mX9_seed 4 6 (.ldc 77) 2 := ⟨by decide +kernel, rfl⟩
theorem eX9_seed_6 : eb_at mX9_seed 6 7 (.ireturn) 1 := ⟨by decide +kernel, rfl⟩
theorem eX9_seed_7 : eb_at mX9_seed 7 8 (.aload_n 0) 1 := ⟨by decide +kernel, rfl⟩
theorem eX9_seed_8 : eb_gf mX9_seed 8 11 8 3 := ⟨33, (RX9, TX9, 9), by decide +kernel, rfl, rfl, by decide, wd_347⟩
theorem eX9_seed_11 : eb_gf mX9_seed 11 14 1 0 := ⟨250, (RX1, TX1, 1), by decide +kernel, rfl, rfl, by decide, wd_165⟩
theorem eX9_seed_14 : eb_at mX9_seed 14 15 (.istore_n 2) 1 := ⟨by decide +kernel, rfl⟩
theorem eX9_seed_15 : eb_at mX9_seed 15 16 (.aload_n 0) 1 := ⟨by decide +kernel, rfl⟩
theorem eX9_seed_16 : eb_gf mX9_seed 16 19 8 3 := ⟨33, (RX9, TX9, 9), by decide +kernel, rfl, rfl, by decide, wd_347⟩
theorem eX9_seed_19 : eb_at mX9_seed 19 20 (.iload_n 1) 1 := ⟨by decide +kernel, rfl⟩
theorem eX9_seed_20 : eb_pf mX9_seed 20 23 1 0 false .int := ⟨250, (RX1, TX1, 1), by decide +kernel, rfl, rfl, by decide, wd_165, rfl, by decide +kernel, fun h => absurd h (by decide)⟩
theorem eX9_seed_23 : eb_at mX9_seed 23 24 (.iload_n 2) 1 := ⟨by decide +kernel, rfl⟩
theorem eX9_seed_24 : eb_at mX9_seed 24 25 (.ireturn) 1 := ⟨by decide +kernel, rfl⟩
theorem eX9_surveyed_0 : eb_at mX9_surveyed 0 1 (.aload_n 0) 1 := ⟨by decide +kernel, rfl⟩
theorem eX9_surveyed_1 : eb_gf mX9_surveyed 1 4 8 7 := ⟨69, (RX9, TX9, 9), by decide +kernel, rfl, rfl, by decide, wd_351⟩
theorem eX9_surveyed_4 : eb_gf mX9_surveyed 4 7 5 2 := ⟨267, (RX6, TX6, 6), by decide +kernel, rfl, rfl, by decide, wd_253⟩
theorem eX9_surveyed_7 : eb_at mX9_surveyed 7 10 (.ifCond .ne 25) 3 := ⟨by decide +kernel, rfl⟩
theorem eX9_surveyed_10 : eb_at mX9_surveyed 10 11 (.aload_n 0) 1 := ⟨by decide +kernel, rfl⟩
theorem eX9_surveyed_11 : eb_gf mX9_surveyed 11 14 8 6 := ⟨63, (RX9, TX9, 9), by decide +kernel, rfl, rfl, by decide, wd_350⟩
theorem eX9_surveyed_14 : eb_at mX9_surveyed 14 15 (.aload_n 0) 1 := ⟨by decide +kernel, rfl⟩
theorem eX9_surveyed_15 : eb_gf mX9_surveyed 15 18 8 0 := ⟨12, (RX9, TX9, 9), by decide +kernel, rfl, rfl, by decide, wd_344⟩
theorem eX9_surveyed_18 : eb_cv mX9_surveyed 18 21 mX3_load 1 := ⟨261, (RX3, TX3, 13), by decide +kernel, rfl, wd_295, wd_296, wd_297, by decide, rfl, rfl, okX3_load⟩
theorem eX9_surveyed_21 : eb_at mX9_surveyed 21 22 (.aload_n 0) 1 := ⟨by decide +kernel, rfl⟩
theorem eX9_surveyed_22 : eb_gf mX9_surveyed 22 25 8 7 := ⟨69, (RX9, TX9, 9), by decide +kernel, rfl, rfl, by decide, wd_351⟩
theorem eX9_surveyed_25 : eb_at mX9_surveyed 25 26 (.aload_n 0) 1 := ⟨by decide +kernel, rfl⟩
theorem eX9_surveyed_26 : eb_gf mX9_surveyed 26 29 8 6 := ⟨63, (RX9, TX9, 9), by decide +kernel, rfl, rfl, by decide, wd_350⟩
theorem eX9_surveyed_29 : eb_cv mX9_surveyed 29 32 mX6_fill 1 := ⟨270, (RX6, TX6, 6), by decide +kernel, rfl, wd_464, wd_465, wd_466, by decide, rfl, rfl, okX6_fill⟩
theorem eX9_surveyed_32 : eb_at mX9_surveyed 32 33 (.aload_n 0) 1 := ⟨by decide +kernel, rfl⟩
theorem eX9_surveyed_33 : eb_gf mX9_surveyed 33 36 8 7 := ⟨69, (RX9, TX9, 9), by decide +kernel, rfl, rfl, by decide, wd_351⟩
theorem eX9_surveyed_36 : eb_at mX9_surveyed 36 37 (.areturn) 1 := ⟨by decide +kernel, rfl⟩
theorem eX9_tableOfRoots_0 : eb_at mX9_tableOfRoots 0 3 (.sipush 200) 3 := ⟨by decide +kernel, rfl⟩
theorem eX9_tableOfRoots_3 : eb_at mX9_tableOfRoots 3 5 (.newarray .int) 2 := ⟨by decide +kernel, rfl⟩
theorem eX9_tableOfRoots_5 : eb_at mX9_tableOfRoots 5 6 (.astore_n 0) 1 := ⟨by decide +kernel, rfl⟩
theorem eX9_tableOfRoots_6 : eb_at mX9_tableOfRoots 6 7 (.iconst 0) 1 := ⟨by decide +kernel, rfl⟩
theorem eX9_tableOfRoots_7 : eb_at mX9_tableOfRoots 7 8 (.istore_n 1) 1 := ⟨by decide +kernel, rfl⟩
theorem eX9_tableOfRoots_8 : eb_at mX9_tableOfRoots 8 9 (.iconst 0) 1 := ⟨by decide +kernel, rfl⟩
theorem eX9_tableOfRoots_9 : eb_at mX9_tableOfRoots 9 10 (.istore_n 2) 1 := ⟨by decide +kernel, rfl⟩
theorem eX9_tableOfRoots_10 : eb_at mX9_tableOfRoots 10 11 (.iload_n 2) 1 := ⟨by decide +kernel, rfl⟩
theorem eX9_tableOfRoots_11 : eb_at mX9_tableOfRoots 11 14 (.sipush 200) 3 := ⟨by decide +kernel, rfl⟩
theorem eX9_tableOfRoots_14 : eb_at mX9_tableOfRoots 14 17 (.if_icmp .ge 40) 3 := ⟨by decide +kernel, rfl⟩
theorem eX9_tableOfRoots_17 : eb_at mX9_tableOfRoots 17 18 (.iload_n 1) 1 := ⟨by decide +kernel, rfl⟩
theorem eX9_tableOfRoots_18 : eb_at mX9_tableOfRoots 18 21 (.sipush 200) 3 := ⟨by decide +kernel, rfl⟩
theorem eX9_tableOfRoots_21 : eb_at mX9_tableOfRoots 21 24 (.if_icmp .ge 23) 3 := ⟨by decide +kernel, rfl⟩
theorem eX9_tableOfRoots_24 : eb_at mX9_tableOfRoots 24 25 (.iload_n 1) 1 := ⟨by decide +kernel, rfl⟩
theorem eX9_tableOfRoots_25 : eb_at mX9_tableOfRoots 25 26 (.iconst 1) 1 := ⟨by decide +kernel, rfl⟩
theorem eX9_tableOfRoots_26 : eb_at mX9_tableOfRoots 26 27 (.iadd) 1 := ⟨by decide +kernel, rfl⟩
theorem eX9_tableOfRoots_27 : eb_at mX9_tableOfRoots 27 28 (.iload_n 1) 1 := ⟨by decide +kernel, rfl⟩
theorem eX9_tableOfRoots_28 : eb_at mX9_tableOfRoots 28 29 (.iconst 1) 1 := ⟨by decide +kernel, rfl⟩
theorem eX9_tableOfRoots_29 : eb_at mX9_tableOfRoots 29 30 (.iadd) 1 := ⟨by decide +kernel, rfl⟩
theorem eX9_tableOfRoots_30 : eb_at mX9_tableOfRoots 30 31 (.imul) 1 := ⟨by decide +kernel, rfl⟩
theorem eX9_tableOfRoots_31 : eb_at mX9_tableOfRoots 31 33 (.bipush 100) 2 := ⟨by decide +kernel, rfl⟩
theorem eX9_tableOfRoots_33 : eb_at mX9_tableOfRoots 33 34 (.iload_n 2) 1 := ⟨by decide +kernel, rfl⟩
theorem eX9_tableOfRoots_34 : eb_at mX9_tableOfRoots 34 35 (.imul) 1 := ⟨by decide +kernel, rfl⟩
theorem eX9_tableOfRoots_35 : eb_at mX9_tableOfRoots 35 38 (.if_icmp .gt 9) 3 := ⟨by decide +kernel, rfl⟩
theorem eX9_tableOfRoots_38 : eb_at mX9_tableOfRoots 38 41 (.iinc 1 1) 3 := ⟨by decide +kernel, rfl⟩
theorem eX9_tableOfRoots_41 : eb_at mX9_tableOfRoots 41 44 (.goto (-24)) 3 := ⟨by decide +kernel, rfl⟩
theorem eX9_tableOfRoots_44 : eb_at mX9_tableOfRoots 44 45 (.aload_n 0) 1 := ⟨by decide +kernel, rfl⟩
theorem eX9_tableOfRoots_45 : eb_at mX9_tableOfRoots 45 46 (.iload_n 2) 1 := ⟨by decide +kernel, rfl⟩
theorem eX9_tableOfRoots_46 : eb_at mX9_tableOfRoots 46 47 (.iload_n 1) 1 := ⟨by decide +kernel, rfl⟩
theorem eX9_tableOfRoots_47 : eb_at mX9_tableOfRoots 47 48 (.iastore) 1 := ⟨by decide +kernel, rfl⟩
theorem eX9_tableOfRoots_48 : eb_at mX9_tableOfRoots 48 51 (.iinc 2 1) 3 := ⟨by decide +kernel, rfl⟩
theorem eX9_tableOfRoots_51 : eb_at mX9_tableOfRoots 51 54 (.goto (-41)) 3 := ⟨by decide +kernel, rfl⟩
theorem eX9_tableOfRoots_54 : eb_at mX9_tableOfRoots 54 55 (.aload_n 0) 1 := ⟨by decide +kernel, rfl⟩
theorem eX9_tableOfRoots_55 : eb_at mX9_tableOfRoots 55 56 (.areturn) 1 := ⟨by decide +kernel, rfl⟩
theorem eX9_take_0 : eb_at mX9_take 0 1 (.aload_n 0) 1 := ⟨by decide +kernel, rfl⟩
theorem eX9_take_1 : eb_gf mX9_take 1 4 8 0 := ⟨12, (RX9, TX9, 9), by decide +kernel, rfl, rfl, by decide, wd_344⟩
theorem eX9_take_4 : eb_at mX9_take 4 5 (.iload_n 1) 1 := ⟨by decide +kernel, rfl⟩
theorem eX9_take_5 : eb_cv mX9_take 5 8 mX7_hasWord 1 := ⟨159, (RX7, TX7, 6), by decide +kernel, rfl, wd_507, wd_508, wd_509, by decide, rfl, rfl, okX7_hasWord⟩
theorem eX9_take_8 : eb_at mX9_take 8 11 (.ifCond .ne 6) 3 := ⟨by decide +kernel, rfl⟩
theorem eX9_take_11 : eb_at mX9_take 11 13 (.ldc 163) 2 := ⟨by decide +kernel, rfl⟩
theorem eX9_take_13 : eb_at mX9_take 13 14 (.ireturn) 1 := ⟨by decide +kernel, rfl⟩
theorem eX9_take_14 : eb_at mX9_take 14 15 (.aload_n 0) 1 := ⟨by decide +kernel, rfl⟩
theorem eX9_take_15 : eb_gf mX9_take 15 18 8 0 := ⟨12, (RX9, TX9, 9), by decide +kernel, rfl, rfl, by decide, wd_344⟩
theorem eX9_take_18 : eb_gf mX9_take 18 21 6 0 := ⟨164, (RX7, TX7, 6), by decide +kernel, rfl, rfl, by decide, wd_81⟩
theorem eX9_take_21 : eb_at mX9_take 21 22 (.iload_n 1) 1 := ⟨by decide +kernel, rfl⟩
theorem eX9_take_22 : eb_at mX9_take 22 23 (.laload) 1 := ⟨by decide +kernel, rfl⟩
theorem eX9_take_23 : eb_cs mX9_take 23 26 mX5_widthOf 1 := ⟨165, by decide +kernel, rfl, wd_512, wd_300, by decide, okX5_widthOf⟩
theorem eX9_take_26 : eb_at mX9_take 26 27 (.istore_n 2) 1 := ⟨by decide +kernel, rfl⟩
theorem eX9_take_27 : eb_at mX9_take 27 28 (.aload_n 0) 1 := ⟨by decide +kernel, rfl⟩
theorem eX9_take_28 : eb_gf mX9_take 28 31 8 2 := ⟨26, (RX9, TX9, 9), by decide +kernel, rfl, rfl, by decide, wd_346⟩
theorem eX9_take_31 : eb_at mX9_take 31 32 (.aload_n 0) 1 := ⟨by decide +kernel, rfl⟩
theorem eX9_take_32 : eb_gf mX9_take 32 35 8 0 := ⟨12, (RX9, TX9, 9), by decide +kernel, rfl, rfl, by decide, wd_344⟩
theorem eX9_take_35 : eb_cv mX9_take 35 38 mX4_remember 1 := ⟨86, (RX4, TX4, 3), by decide +kernel, rfl, wd_401, wd_402, wd_403, by decide, rfl, rfl, okX4_remember⟩
theorem eX9_take_38 : eb_at mX9_take 38 39 (.aload_n 0) 1 := ⟨by decide +kernel, rfl⟩
theorem eX9_take_39 : eb_gf mX9_take 39 42 8 0 := ⟨12, (RX9, TX9, 9), by decide +kernel, rfl, rfl, by decide, wd_344⟩
theorem eX9_take_42 : eb_at mX9_take 42 43 (.iload_n 1) 1 := ⟨by decide +kernel, rfl⟩
theorem eX9_take_43 : eb_cv mX9_take 43 46 mX7_takeOut 1 := ⟨217, (RX7, TX7, 6), by decide +kernel, rfl, wd_574, wd_575, wd_576, by decide, rfl, rfl, okX7_takeOut⟩
theorem eX9_take_46 : eb_at mX9_take 46 47 (.aload_n 0) 1 := ⟨by decide +kernel, rfl⟩
theorem eX9_take_47 : eb_cv mX9_take 47 50 mX9_layAnew 0 := ⟨74, (RX9, TX9, 9), by decide +kernel, rfl, wd_291, wd_293, wd_0, by decide, rfl, rfl, okX9_layAnew⟩
theorem eX9_take_50 : eb_at mX9_take 50 51 (.iload_n 2) 1 := ⟨by decide +kernel, rfl⟩
theorem eX9_take_51 : eb_at mX9_take 51 52 (.ireturn) 1 := ⟨by decide +kernel, rfl⟩
end
section
theorem eX9_tear_0 : eb_at mX9_tear 0 1 (.aload_n 0) 1 := ⟨by decide +kernel, rfl⟩
theorem eX9_tear_1 : eb_gf mX9_tear 1 4 8 7 := ⟨69, (RX9, TX9, 9), by decide +kernel, rfl, rfl, by decide, wd_351⟩
theorem eX9_tear_4 : eb_gf mX9_tear 4 7 5 3 := ⟨134, (RX6, TX6, 6), by decide +kernel, rfl, rfl, by decide, wd_255⟩
theorem eX9_tear_7 : eb_at mX9_tear 7 8 (.aload_n 0) 1 := ⟨by decide +kernel, rfl⟩
theorem eX9_tear_8 : eb_gf mX9_tear 8 11 8 8 := ⟨46, (RX9, TX9, 9), by decide +kernel, rfl, rfl, by decide, wd_352⟩
theorem eX9_tear_11 : eb_gf mX9_tear 11 14 0 2 := ⟨153, (RX0, TX0, 3), by decide +kernel, rfl, rfl, by decide, wd_180⟩
theorem eX9_tear_14 : eb_at mX9_tear 14 15 (.iadd) 1 := ⟨by decide +kernel, rfl⟩
theorem eX9_tear_15 : eb_at mX9_tear 15 16 (.istore_n 1) 1 := ⟨by decide +kernel, rfl⟩
theorem eX9_tear_16 : eb_at mX9_tear 16 17 (.aload_n 0) 1 := ⟨by decide +kernel, rfl⟩
theorem eX9_tear_17 : eb_gf mX9_tear 17 20 8 7 := ⟨69, (RX9, TX9, 9), by decide +kernel, rfl, rfl, by decide, wd_351⟩
theorem eX9_tear_20 : eb_cv mX9_tear 20 23 mX6_forget 0 := ⟨247, (RX6, TX6, 6), by decide +kernel, rfl, wd_681, wd_682, wd_683, by decide, rfl, rfl, okX6_forget⟩
theorem eX9_tear_23 : eb_at mX9_tear 23 24 (.aload_n 0) 1 := ⟨by decide +kernel, rfl⟩
theorem eX9_tear_24 : eb_gf mX9_tear 24 27 8 8 := ⟨46, (RX9, TX9, 9), by decide +kernel, rfl, rfl, by decide, wd_352⟩
theorem eX9_tear_27 : eb_at mX9_tear 27 28 (.iconst 0) 1 := ⟨by decide +kernel, rfl⟩
theorem eX9_tear_28 : eb_pf mX9_tear 28 31 0 2 false .int := ⟨153, (RX0, TX0, 3), by decide +kernel, rfl, rfl, by decide, wd_180, rfl, by decide +kernel, fun h => absurd h (by decide)⟩
theorem eX9_tear_31 : eb_at mX9_tear 31 32 (.iload_n 1) 1 := ⟨by decide +kernel, rfl⟩
theorem eX9_tear_32 : eb_at mX9_tear 32 33 (.ireturn) 1 := ⟨by decide +kernel, rfl⟩
theorem eX9_told_0 : eb_at mX9_told 0 1 (.iload_n 1) 1 := ⟨by decide +kernel, rfl⟩
theorem eX9_told_1 : eb_at mX9_told 1 92 (.tableswitch 282 0 18 #[91, 99, 107, 115, 123, 139, 147, 155, 163, 181, 199, 207, 215, 223, 231, 239, 254, 262, 274]) 91 := ⟨by decide +kernel, rfl⟩
theorem eX9_told_92 : eb_at mX9_told 92 93 (.aload_n 0) 1 := ⟨by decide +kernel, rfl⟩
theorem eX9_told_93 : eb_gf mX9_told 93 96 8 0 := ⟨12, (RX9, TX9, 9), by decide +kernel, rfl, rfl, by decide, wd_344⟩
theorem eX9_told_96 : eb_gf mX9_told 96 99 6 1 := ⟨102, (RX7, TX7, 6), by decide +kernel, rfl, rfl, by decide, wd_84⟩
theorem eX9_told_99 : eb_at mX9_told 99 100 (.ireturn) 1 := ⟨by decide +kernel, rfl⟩
theorem eX9_told_100 : eb_at mX9_told 100 101 (.aload_n 0) 1 := ⟨by decide +kernel, rfl⟩
theorem eX9_told_101 : eb_gf mX9_told 101 104 8 0 := ⟨12, (RX9, TX9, 9), by decide +kernel, rfl, rfl, by decide, wd_344⟩
theorem eX9_told_104 : eb_gf mX9_told 104 107 6 2 := ⟨108, (RX7, TX7, 6), by decide +kernel, rfl, rfl, by decide, wd_87⟩
theorem eX9_told_107 : eb_at mX9_told 107 108 (.ireturn) 1 := ⟨by decide +kernel, rfl⟩
theorem eX9_told_108 : eb_at mX9_told 108 109 (.aload_n 0) 1 := ⟨by decide +kernel, rfl⟩
theorem eX9_told_109 : eb_gf mX9_told 109 112 8 0 := ⟨12, (RX9, TX9, 9), by decide +kernel, rfl, rfl, by decide, wd_344⟩
theorem eX9_told_112 : eb_gf mX9_told 112 115 6 3 := ⟨111, (RX7, TX7, 6), by decide +kernel, rfl, rfl, by decide, wd_90⟩
theorem eX9_told_115 : eb_at mX9_told 115 116 (.ireturn) 1 := ⟨by decide +kernel, rfl⟩
theorem eX9_told_116 : eb_at mX9_told 116 117 (.aload_n 0) 1 := ⟨by decide +kernel, rfl⟩
theorem eX9_told_117 : eb_gf mX9_told 117 120 8 0 := ⟨12, (RX9, TX9, 9), by decide +kernel, rfl, rfl, by decide, wd_344⟩
theorem eX9_told_120 : eb_gf mX9_told 120 123 6 4 := ⟨114, (RX7, TX7, 6), by decide +kernel, rfl, rfl, by decide, wd_93⟩
theorem eX9_told_123 : eb_at mX9_told 123 124 (.ireturn) 1 := ⟨by decide +kernel, rfl⟩
theorem eX9_told_124 : eb_at mX9_told 124 125 (.aload_n 0) 1 := ⟨by decide +kernel, rfl⟩
theorem eX9_told_125 : eb_gf mX9_told 125 128 8 0 := ⟨12, (RX9, TX9, 9), by decide +kernel, rfl, rfl, by decide, wd_344⟩
theorem eX9_told_128 : eb_gf mX9_told 128 131 6 5 := ⟨117, (RX7, TX7, 6), by decide +kernel, rfl, rfl, by decide, wd_96⟩
theorem eX9_told_131 : eb_at mX9_told 131 134 (.ifCond .eq 7) 3 := ⟨by decide +kernel, rfl⟩
theorem eX9_told_134 : eb_at mX9_told 134 135 (.iconst 1) 1 := ⟨by decide +kernel, rfl⟩
theorem eX9_told_135 : eb_at mX9_told 135 138 (.goto 4) 3 := ⟨by decide +kernel, rfl⟩
theorem eX9_told_138 : eb_at mX9_told 138 139 (.iconst 0) 1 := ⟨by decide +kernel, rfl⟩
theorem eX9_told_139 : eb_at mX9_told 139 140 (.ireturn) 1 := ⟨by decide +kernel, rfl⟩
theorem eX9_told_140 : eb_at mX9_told 140 141 (.aload_n 0) 1 := ⟨by decide +kernel, rfl⟩
theorem eX9_told_141 : eb_gf mX9_told 141 144 8 1 := ⟨19, (RX9, TX9, 9), by decide +kernel, rfl, rfl, by decide, wd_345⟩
theorem eX9_told_144 : eb_gf mX9_told 144 147 7 2 := ⟨121, (RX8, TX8, 5), by decide +kernel, rfl, rfl, by decide, wd_121⟩
theorem eX9_told_147 : eb_at mX9_told 147 148 (.ireturn) 1 := ⟨by decide +kernel, rfl⟩
theorem eX9_told_148 : eb_at mX9_told 148 149 (.aload_n 0) 1 := ⟨by decide +kernel, rfl⟩
theorem eX9_told_149 : eb_gf mX9_told 149 152 8 5 := ⟨59, (RX9, TX9, 9), by decide +kernel, rfl, rfl, by decide, wd_349⟩
theorem eX9_told_152 : eb_cv mX9_told 152 155 mX3_lastTotal 0 := ⟨122, (RX3, TX3, 13), by decide +kernel, rfl, wd_428, wd_429, wd_430, by decide, rfl, rfl, okX3_lastTotal⟩
theorem eX9_told_155 : eb_at mX9_told 155 156 (.ireturn) 1 := ⟨by decide +kernel, rfl⟩
theorem eX9_told_156 : eb_at mX9_told 156 157 (.aload_n 0) 1 := ⟨by decide +kernel, rfl⟩
theorem eX9_told_157 : eb_gf mX9_told 157 160 8 5 := ⟨59, (RX9, TX9, 9), by decide +kernel, rfl, rfl, by decide, wd_349⟩
theorem eX9_told_160 : eb_gf mX9_told 160 163 3 11 := ⟨125, (RX3, TX3, 13), by decide +kernel, rfl, rfl, by decide, wd_212⟩
theorem eX9_told_163 : eb_at mX9_told 163 164 (.ireturn) 1 := ⟨by decide +kernel, rfl⟩
theorem eX9_told_164 : eb_at mX9_told 164 165 (.aload_n 0) 1 := ⟨by decide +kernel, rfl⟩
theorem eX9_told_165 : eb_gf mX9_told 165 168 8 5 := ⟨59, (RX9, TX9, 9), by decide +kernel, rfl, rfl, by decide, wd_349⟩
theorem eX9_told_168 : eb_at mX9_told 168 169 (.iconst 1) 1 := ⟨by decide +kernel, rfl⟩
theorem eX9_told_169 : eb_cv mX9_told 169 172 mX3_firstCrossed 1 := ⟨128, (RX3, TX3, 13), by decide +kernel, rfl, wd_432, wd_433, wd_434, by decide, rfl, rfl, okX3_firstCrossed⟩
theorem eX9_told_172 : eb_at mX9_told 172 173 (.iconst (-1)) 1 := ⟨by decide +kernel, rfl⟩
theorem eX9_told_173 : eb_at mX9_told 173 176 (.if_icmp .ne 7) 3 := ⟨by decide +kernel, rfl⟩
theorem eX9_told_176 : eb_at mX9_told 176 177 (.iconst 1) 1 := ⟨by decide +kernel, rfl⟩
theorem eX9_told_177 : eb_at mX9_told 177 180 (.goto 4) 3 := ⟨by decide +kernel, rfl⟩
theorem eX9_told_180 : eb_at mX9_told 180 181 (.iconst 0) 1 := ⟨by decide +kernel, rfl⟩
theorem eX9_told_181 : eb_at mX9_told 181 182 (.ireturn) 1 := ⟨by decide +kernel, rfl⟩
theorem eX9_told_182 : eb_at mX9_told 182 183 (.aload_n 0) 1 := ⟨by decide +kernel, rfl⟩
theorem eX9_told_183 : eb_gf mX9_told 183 186 8 5 := ⟨59, (RX9, TX9, 9), by decide +kernel, rfl, rfl, by decide, wd_349⟩
theorem eX9_told_186 : eb_at mX9_told 186 187 (.iconst (-1)) 1 := ⟨by decide +kernel, rfl⟩
theorem eX9_told_187 : eb_cv mX9_told 187 190 mX3_firstCrossed 1 := ⟨128, (RX3, TX3, 13), by decide +kernel, rfl, wd_432, wd_433, wd_434, by decide, rfl, rfl, okX3_firstCrossed⟩
theorem eX9_told_190 : eb_at mX9_told 190 191 (.iconst (-1)) 1 := ⟨by decide +kernel, rfl⟩
theorem eX9_told_191 : eb_at mX9_told 191 194 (.if_icmp .ne 7) 3 := ⟨by decide +kernel, rfl⟩
theorem eX9_told_194 : eb_at mX9_told 194 195 (.iconst 1) 1 := ⟨by decide +kernel, rfl⟩
theorem eX9_told_195 : eb_at mX9_told 195 198 (.goto 4) 3 := ⟨by decide +kernel, rfl⟩
theorem eX9_told_198 : eb_at mX9_told 198 199 (.iconst 0) 1 := ⟨by decide +kernel, rfl⟩
theorem eX9_told_199 : eb_at mX9_told 199 200 (.ireturn) 1 := ⟨by decide +kernel, rfl⟩
theorem eX9_told_200 : eb_at mX9_told 200 201 (.aload_n 0) 1 := ⟨by decide +kernel, rfl⟩
theorem eX9_told_201 : eb_gf mX9_told 201 204 8 5 := ⟨59, (RX9, TX9, 9), by decide +kernel, rfl, rfl, by decide, wd_349⟩
theorem eX9_told_204 : eb_cv mX9_told 204 207 mX3_rivers 0 := ⟨131, (RX3, TX3, 13), by decide +kernel, rfl, wd_444, wd_445, wd_446, by decide, rfl, rfl, okX3_rivers⟩
theorem eX9_told_207 : eb_at mX9_told 207 208 (.ireturn) 1 := ⟨by decide +kernel, rfl⟩
theorem eX9_told_208 : eb_at mX9_told 208 209 (.aload_n 0) 1 := ⟨by decide +kernel, rfl⟩
theorem eX9_told_209 : eb_gf mX9_told 209 212 8 7 := ⟨69, (RX9, TX9, 9), by decide +kernel, rfl, rfl, by decide, wd_351⟩
theorem eX9_told_212 : eb_gf mX9_told 212 215 5 3 := ⟨134, (RX6, TX6, 6), by decide +kernel, rfl, rfl, by decide, wd_255⟩
theorem eX9_told_215 : eb_at mX9_told 215 216 (.ireturn) 1 := ⟨by decide +kernel, rfl⟩
theorem eX9_told_216 : eb_at mX9_told 216 217 (.aload_n 0) 1 := ⟨by decide +kernel, rfl⟩
theorem eX9_told_217 : eb_cv mX9_told 217 220 mX9_surveyed 0 := ⟨137, (RX9, TX9, 9), by decide +kernel, rfl, wd_460, wd_462, wd_11, by decide, rfl, rfl, okX9_surveyed⟩
theorem eX9_told_220 : eb_cv mX9_told 220 223 mX6_fitting 0 := ⟨141, (RX6, TX6, 6), by decide +kernel, rfl, wd_470, wd_471, wd_472, by decide, rfl, rfl, okX6_fitting⟩
theorem eX9_told_223 : eb_at mX9_told 223 224 (.ireturn) 1 := ⟨by decide +kernel, rfl⟩
theorem eX9_told_224 : eb_at mX9_told 224 225 (.aload_n 0) 1 := ⟨by decide +kernel, rfl⟩
theorem eX9_told_225 : eb_cv mX9_told 225 228 mX9_surveyed 0 := ⟨137, (RX9, TX9, 9), by decide +kernel, rfl, wd_460, wd_462, wd_11, by decide, rfl, rfl, okX9_surveyed⟩
theorem eX9_told_228 : eb_cv mX9_told 228 231 mX6_leastFitting 0 := ⟨144, (RX6, TX6, 6), by decide +kernel, rfl, wd_478, wd_479, wd_480, by decide, rfl, rfl, okX6_leastFitting⟩
theorem eX9_told_231 : eb_at mX9_told 231 232 (.ireturn) 1 := ⟨by decide +kernel, rfl⟩
theorem eX9_told_232 : eb_at mX9_told 232 233 (.aload_n 0) 1 := ⟨by decide +kernel, rfl⟩
theorem eX9_told_233 : eb_cv mX9_told 233 236 mX9_surveyed 0 := ⟨137, (RX9, TX9, 9), by decide +kernel, rfl, wd_460, wd_462, wd_11, by decide, rfl, rfl, okX9_surveyed⟩
theorem eX9_told_236 : eb_cv mX9_told 236 239 mX6_greatestFitting 0 := ⟨147, (RX6, TX6, 6), by decide +kernel, rfl, wd_482, wd_483, wd_484, by decide, rfl, rfl, okX6_greatestFitting⟩
theorem eX9_told_239 : eb_at mX9_told 239 240 (.ireturn) 1 := ⟨by decide +kernel, rfl⟩
theorem eX9_told_240 : eb_at mX9_told 240 241 (.aload_n 0) 1 := ⟨by decide +kernel, rfl⟩
theorem eX9_told_241 : eb_cv mX9_told 241 244 mX9_surveyed 0 := ⟨137, (RX9, TX9, 9), by decide +kernel, rfl, wd_460, wd_462, wd_11, by decide, rfl, rfl, okX9_surveyed⟩
theorem eX9_told_244 : eb_at mX9_told 244 245 (.aload_n 0) 1 := ⟨by decide +kernel, rfl⟩
theorem eX9_told_245 : eb_gf mX9_told 245 248 8 0 := ⟨12, (RX9, TX9, 9), by decide +kernel, rfl, rfl, by decide, wd_344⟩
theorem eX9_told_248 : eb_gf mX9_told 248 251 6 1 := ⟨102, (RX7, TX7, 6), by decide +kernel, rfl, rfl, by decide, wd_84⟩
theorem eX9_told_251 : eb_cv mX9_told 251 254 mX6_look 1 := ⟨150, (RX6, TX6, 6), by decide +kernel, rfl, wd_486, wd_487, wd_488, by decide, rfl, rfl, okX6_look⟩
theorem eX9_told_254 : eb_at mX9_told 254 255 (.ireturn) 1 := ⟨by decide +kernel, rfl⟩
theorem eX9_told_255 : eb_at mX9_told 255 256 (.aload_n 0) 1 := ⟨by decide +kernel, rfl⟩
theorem eX9_told_256 : eb_gf mX9_told 256 259 8 8 := ⟨46, (RX9, TX9, 9), by decide +kernel, rfl, rfl, by decide, wd_352⟩
theorem eX9_told_259 : eb_gf mX9_told 259 262 0 2 := ⟨153, (RX0, TX0, 3), by decide +kernel, rfl, rfl, by decide, wd_180⟩
theorem eX9_told_262 : eb_at mX9_told 262 263 (.ireturn) 1 := ⟨by decide +kernel, rfl⟩
theorem eX9_told_263 : eb_at mX9_told 263 264 (.aload_n 0) 1 := ⟨by decide +kernel, rfl⟩
theorem eX9_told_264 : eb_gf mX9_told 264 267 8 8 := ⟨46, (RX9, TX9, 9), by decide +kernel, rfl, rfl, by decide, wd_352⟩
theorem eX9_told_267 : eb_at mX9_told 267 268 (.aload_n 0) 1 := ⟨by decide +kernel, rfl⟩
theorem eX9_told_268 : eb_gf mX9_told 268 271 8 5 := ⟨59, (RX9, TX9, 9), by decide +kernel, rfl, rfl, by decide, wd_349⟩
theorem eX9_told_271 : eb_cv mX9_told 271 274 mX0_firstWrong 1 := ⟨154, (RX0, TX0, 3), by decide +kernel, rfl, wd_498, wd_499, wd_500, by decide, rfl, rfl, okX0_firstWrong⟩
theorem eX9_told_274 : eb_at mX9_told 274 275 (.ireturn) 1 := ⟨by decide +kernel, rfl⟩
theorem eX9_told_275 : eb_at mX9_told 275 276 (.aload_n 0) 1 := ⟨by decide +kernel, rfl⟩
theorem eX9_told_276 : eb_gf mX9_told 276 279 8 2 := ⟨26, (RX9, TX9, 9), by decide +kernel, rfl, rfl, by decide, wd_346⟩
theorem eX9_told_279 : eb_gf mX9_told 279 282 4 2 := ⟨158, (RX4, TX4, 3), by decide +kernel, rfl, rfl, by decide, wd_150⟩
theorem eX9_told_282 : eb_at mX9_told 282 283 (.ireturn) 1 := ⟨by decide +kernel, rfl⟩
theorem eX9_told_283 : eb_at mX9_told 283 285 (.ldc 77) 2 := ⟨by decide +kernel, rfl⟩
theorem eX9_told_285 : eb_at mX9_told 285 286 (.ireturn) 1 := ⟨by decide +kernel, rfl⟩
theorem eX9_type_0 : eb_at mX9_type 0 1 (.aload_n 0) 1 := ⟨by decide +kernel, rfl⟩
theorem eX9_type_1 : eb_gf mX9_type 1 4 8 1 := ⟨19, (RX9, TX9, 9), by decide +kernel, rfl, rfl, by decide, wd_345⟩
theorem eX9_type_4 : eb_cv mX9_type 4 7 mX8_read 0 := ⟨82, (RX8, TX8, 5), by decide +kernel, rfl, wd_386, wd_387, wd_388, by decide, rfl, rfl, okX8_read⟩
theorem eX9_type_7 : eb_at mX9_type 7 8 (.istore_n 1) 1 := ⟨by decide +kernel, rfl⟩
theorem eX9_type_8 : eb_at mX9_type 8 9 (.iload_n 1) 1 := ⟨by decide +kernel, rfl⟩
theorem eX9_type_9 : eb_at mX9_type 9 12 (.ifCond .eq 8) 3 := ⟨by decide +kernel, rfl⟩
theorem eX9_type_12 : eb_at mX9_type 12 14 (.bipush (-10)) 2 := ⟨by decide +kernel, rfl⟩
theorem eX9_type_14 : eb_at mX9_type 14 15 (.iload_n 1) 1 := ⟨by decide +kernel, rfl⟩
theorem eX9_type_15 : eb_at mX9_type 15 16 (.isub) 1 := ⟨by decide +kernel, rfl⟩
theorem eX9_type_16 : eb_at mX9_type 16 17 (.ireturn) 1 := ⟨by decide +kernel, rfl⟩
theorem eX9_type_17 : eb_at mX9_type 17 18 (.aload_n 0) 1 := ⟨by decide +kernel, rfl⟩
theorem eX9_type_18 : eb_gf mX9_type 18 21 8 2 := ⟨26, (RX9, TX9, 9), by decide +kernel, rfl, rfl, by decide, wd_346⟩
theorem eX9_type_21 : eb_at mX9_type 21 22 (.aload_n 0) 1 := ⟨by decide +kernel, rfl⟩
theorem eX9_type_22 : eb_gf mX9_type 22 25 8 0 := ⟨12, (RX9, TX9, 9), by decide +kernel, rfl, rfl, by decide, wd_344⟩
theorem eX9_type_25 : eb_cv mX9_type 25 28 mX4_remember 1 := ⟨86, (RX4, TX4, 3), by decide +kernel, rfl, wd_401, wd_402, wd_403, by decide, rfl, rfl, okX4_remember⟩
theorem eX9_type_28 : eb_at mX9_type 28 29 (.aload_n 0) 1 := ⟨by decide +kernel, rfl⟩
theorem eX9_type_29 : eb_gf mX9_type 29 32 8 0 := ⟨12, (RX9, TX9, 9), by decide +kernel, rfl, rfl, by decide, wd_344⟩
theorem eX9_type_32 : eb_at mX9_type 32 33 (.aload_n 0) 1 := ⟨by decide +kernel, rfl⟩
theorem eX9_type_33 : eb_gf mX9_type 33 36 8 1 := ⟨19, (RX9, TX9, 9), by decide +kernel, rfl, rfl, by decide, wd_345⟩
theorem eX9_type_36 : eb_gf mX9_type 36 39 7 1 := ⟨90, (RX8, TX8, 5), by decide +kernel, rfl, rfl, by decide, wd_119⟩
theorem eX9_type_39 : eb_at mX9_type 39 40 (.aload_n 0) 1 := ⟨by decide +kernel, rfl⟩
theorem eX9_type_40 : eb_gf mX9_type 40 43 8 1 := ⟨19, (RX9, TX9, 9), by decide +kernel, rfl, rfl, by decide, wd_345⟩
theorem eX9_type_43 : eb_gf mX9_type 43 46 7 3 := ⟨94, (RX8, TX8, 5), by decide +kernel, rfl, rfl, by decide, wd_123⟩
theorem eX9_type_46 : eb_cv mX9_type 46 49 mX7_setWords 2 := ⟨98, (RX7, TX7, 6), by decide +kernel, rfl, wd_419, wd_410, wd_411, by decide, rfl, rfl, okX7_setWords⟩
theorem eX9_type_49 : eb_at mX9_type 49 50 (.aload_n 0) 1 := ⟨by decide +kernel, rfl⟩
theorem eX9_type_50 : eb_cv mX9_type 50 53 mX9_layAnew 0 := ⟨74, (RX9, TX9, 9), by decide +kernel, rfl, wd_291, wd_293, wd_0, by decide, rfl, rfl, okX9_layAnew⟩
theorem eX9_type_53 : eb_at mX9_type 53 54 (.aload_n 0) 1 := ⟨by decide +kernel, rfl⟩
theorem eX9_type_54 : eb_gf mX9_type 54 57 8 0 := ⟨12, (RX9, TX9, 9), by decide +kernel, rfl, rfl, by decide, wd_344⟩
theorem eX9_type_57 : eb_gf mX9_type 57 60 6 1 := ⟨102, (RX7, TX7, 6), by decide +kernel, rfl, rfl, by decide, wd_84⟩
theorem eX9_type_60 : eb_at mX9_type 60 61 (.ireturn) 1 := ⟨by decide +kernel, rfl⟩
theorem eX9_undo_0 : eb_at mX9_undo 0 1 (.iload_n 1) 1 := ⟨by decide +kernel, rfl⟩
theorem eX9_undo_1 : eb_at mX9_undo 1 2 (.iconst 1) 1 := ⟨by decide +kernel, rfl⟩
theorem eX9_undo_2 : eb_at mX9_undo 2 5 (.if_icmp .lt 9) 3 := ⟨by decide +kernel, rfl⟩
theorem eX9_undo_5 : eb_at mX9_undo 5 6 (.iload_n 1) 1 := ⟨by decide +kernel, rfl⟩
theorem eX9_undo_6 : eb_at mX9_undo 6 8 (.bipush 16) 2 := ⟨by decide +kernel, rfl⟩
theorem eX9_undo_8 : eb_at mX9_undo 8 11 (.if_icmp .le 6) 3 := ⟨by decide +kernel, rfl⟩
theorem eX9_undo_11 : eb_at mX9_undo 11 13 (.ldc 77) 2 := ⟨by decide +kernel, rfl⟩
theorem eX9_undo_13 : eb_at mX9_undo 13 14 (.ireturn) 1 := ⟨by decide +kernel, rfl⟩
theorem eX9_undo_14 : eb_at mX9_undo 14 15 (.iload_n 1) 1 := ⟨by decide +kernel, rfl⟩
theorem eX9_undo_15 : eb_at mX9_undo 15 16 (.aload_n 0) 1 := ⟨by decide +kernel, rfl⟩
theorem eX9_undo_16 : eb_gf mX9_undo 16 19 8 2 := ⟨26, (RX9, TX9, 9), by decide +kernel, rfl, rfl, by decide, wd_346⟩
theorem eX9_undo_19 : eb_gf mX9_undo 19 22 4 2 := ⟨158, (RX4, TX4, 3), by decide +kernel, rfl, rfl, by decide, wd_150⟩
theorem eX9_undo_22 : eb_at mX9_undo 22 25 (.if_icmp .le 6) 3 := ⟨by decide +kernel, rfl⟩
theorem eX9_undo_25 : eb_at mX9_undo 25 27 (.ldc 224) 2 := ⟨by decide +kernel, rfl⟩
theorem eX9_undo_27 : eb_at mX9_undo 27 28 (.ireturn) 1 := ⟨by decide +kernel, rfl⟩
theorem eX9_undo_28 : eb_at mX9_undo 28 29 (.aload_n 0) 1 := ⟨by decide +kernel, rfl⟩
theorem eX9_undo_29 : eb_gf mX9_undo 29 32 8 2 := ⟨26, (RX9, TX9, 9), by decide +kernel, rfl, rfl, by decide, wd_346⟩
theorem eX9_undo_32 : eb_at mX9_undo 32 33 (.iload_n 1) 1 := ⟨by decide +kernel, rfl⟩
theorem eX9_undo_33 : eb_at mX9_undo 33 34 (.aload_n 0) 1 := ⟨by decide +kernel, rfl⟩
theorem eX9_undo_34 : eb_gf mX9_undo 34 37 8 0 := ⟨12, (RX9, TX9, 9), by decide +kernel, rfl, rfl, by decide, wd_344⟩
theorem eX9_undo_37 : eb_cv mX9_undo 37 40 mX4_giveBack 2 := ⟨225, (RX4, TX4, 3), by decide +kernel, rfl, wd_621, wd_622, wd_623, by decide, rfl, rfl, okX4_giveBack⟩
theorem eX9_undo_40 : eb_at mX9_undo 40 41 (.aload_n 0) 1 := ⟨by decide +kernel, rfl⟩
theorem eX9_undo_41 : eb_cv mX9_undo 41 44 mX9_layAnew 0 := ⟨74, (RX9, TX9, 9), by decide +kernel, rfl, wd_291, wd_293, wd_0, by decide, rfl, rfl, okX9_layAnew⟩
theorem eX9_undo_44 : eb_at mX9_undo 44 45 (.aload_n 0) 1 := ⟨by decide +kernel, rfl⟩
theorem eX9_undo_45 : eb_gf mX9_undo 45 48 8 0 := ⟨12, (RX9, TX9, 9), by decide +kernel, rfl, rfl, by decide, wd_344⟩
theorem eX9_undo_48 : eb_gf mX9_undo 48 51 6 1 := ⟨102, (RX7, TX7, 6), by decide +kernel, rfl, rfl, by decide, wd_84⟩
theorem eX9_undo_51 : eb_at mX9_undo 51 52 (.ireturn) 1 := ⟨by decide +kernel, rfl⟩
theorem eX9_with_0 : eb_at mX9_with 0 1 (.iload_n 1) 1 := ⟨by decide +kernel, rfl⟩
theorem eX9_with_1 : eb_at mX9_with 1 2 (.iconst 1) 1 := ⟨by decide +kernel, rfl⟩
theorem eX9_with_2 : eb_at mX9_with 2 5 (.if_icmp .lt 9) 3 := ⟨by decide +kernel, rfl⟩
theorem eX9_with_5 : eb_at mX9_with 5 6 (.iload_n 1) 1 := ⟨by decide +kernel, rfl⟩
theorem eX9_with_6 : eb_at mX9_with 6 8 (.bipush 40) 2 := ⟨by decide +kernel, rfl⟩
theorem eX9_with_8 : eb_at mX9_with 8 11 (.if_icmp .le 6) 3 := ⟨by decide +kernel, rfl⟩
theorem eX9_with_11 : eb_at mX9_with 11 13 (.ldc 77) 2 := ⟨by decide +kernel, rfl⟩
theorem eX9_with_13 : eb_at mX9_with 13 14 (.ireturn) 1 := ⟨by decide +kernel, rfl⟩
theorem eX9_with_14 : eb_at mX9_with 14 15 (.aload_n 0) 1 := ⟨by decide +kernel, rfl⟩
theorem eX9_with_15 : eb_gf mX9_with 15 18 8 5 := ⟨59, (RX9, TX9, 9), by decide +kernel, rfl, rfl, by decide, wd_349⟩
theorem eX9_with_18 : eb_at mX9_with 18 19 (.iload_n 1) 1 := ⟨by decide +kernel, rfl⟩
theorem eX9_with_19 : eb_cv mX9_with 19 22 mX3_leastWithLines 1 := ⟨232, (RX3, TX3, 13), by decide +kernel, rfl, wd_642, wd_643, wd_644, by decide, rfl, rfl, okX3_leastWithLines⟩
theorem eX9_with_22 : eb_at mX9_with 22 23 (.ireturn) 1 := ⟨by decide +kernel, rfl⟩
theorem eX9_word_0 : eb_at mX9_word 0 1 (.aload_n 0) 1 := ⟨by decide +kernel, rfl⟩
theorem eX9_word_1 : eb_gf mX9_word 1 4 8 0 := ⟨12, (RX9, TX9, 9), by decide +kernel, rfl, rfl, by decide, wd_344⟩
theorem eX9_word_4 : eb_at mX9_word 4 5 (.iload_n 1) 1 := ⟨by decide +kernel, rfl⟩
theorem eX9_word_5 : eb_cv mX9_word 5 8 mX7_hasWord 1 := ⟨159, (RX7, TX7, 6), by decide +kernel, rfl, wd_507, wd_508, wd_509, by decide, rfl, rfl, okX7_hasWord⟩
theorem eX9_word_8 : eb_at mX9_word 8 11 (.ifCond .ne 6) 3 := ⟨by decide +kernel, rfl⟩
theorem eX9_word_11 : eb_at mX9_word 11 13 (.ldc 163) 2 := ⟨by decide +kernel, rfl⟩
theorem eX9_word_13 : eb_at mX9_word 13 14 (.ireturn) 1 := ⟨by decide +kernel, rfl⟩
theorem eX9_word_14 : eb_at mX9_word 14 15 (.iload_n 2) 1 := ⟨by decide +kernel, rfl⟩
theorem eX9_word_15 : eb_at mX9_word 15 18 (.ifCond .lt 9) 3 := ⟨by decide +kernel, rfl⟩
theorem eX9_word_18 : eb_at mX9_word 18 19 (.iload_n 2) 1 := ⟨by decide +kernel, rfl⟩
theorem eX9_word_19 : eb_at mX9_word 19 21 (.bipush 15) 2 := ⟨by decide +kernel, rfl⟩
theorem eX9_word_21 : eb_at mX9_word 21 24 (.if_icmp .le 6) 3 := ⟨by decide +kernel, rfl⟩
theorem eX9_word_24 : eb_at mX9_word 24 26 (.ldc 77) 2 := ⟨by decide +kernel, rfl⟩
theorem eX9_word_26 : eb_at mX9_word 26 27 (.ireturn) 1 := ⟨by decide +kernel, rfl⟩
theorem eX9_word_27 : eb_at mX9_word 27 28 (.iload_n 2) 1 := ⟨by decide +kernel, rfl⟩
theorem eX9_word_28 : eb_at mX9_word 28 60 (.tableswitch 73 0 3 #[32, 45, 58, 67]) 32 := ⟨by decide +kernel, rfl⟩
theorem eX9_word_60 : eb_at mX9_word 60 61 (.aload_n 0) 1 := ⟨by decide +kernel, rfl⟩
theorem eX9_word_61 : eb_gf mX9_word 61 64 8 0 := ⟨12, (RX9, TX9, 9), by decide +kernel, rfl, rfl, by decide, wd_344⟩
theorem eX9_word_64 : eb_gf mX9_word 64 67 6 0 := ⟨164, (RX7, TX7, 6), by decide +kernel, rfl, rfl, by decide, wd_81⟩
theorem eX9_word_67 : eb_at mX9_word 67 68 (.iload_n 1) 1 := ⟨by decide +kernel, rfl⟩
theorem eX9_word_68 : eb_at mX9_word 68 69 (.laload) 1 := ⟨by decide +kernel, rfl⟩
theorem eX9_word_69 : eb_cs mX9_word 69 72 mX5_widthOf 1 := ⟨165, by decide +kernel, rfl, wd_512, wd_300, by decide, okX5_widthOf⟩
theorem eX9_word_72 : eb_at mX9_word 72 73 (.ireturn) 1 := ⟨by decide +kernel, rfl⟩
theorem eX9_word_73 : eb_at mX9_word 73 74 (.aload_n 0) 1 := ⟨by decide +kernel, rfl⟩
theorem eX9_word_74 : eb_gf mX9_word 74 77 8 0 := ⟨12, (RX9, TX9, 9), by decide +kernel, rfl, rfl, by decide, wd_344⟩
theorem eX9_word_77 : eb_gf mX9_word 77 80 6 0 := ⟨164, (RX7, TX7, 6), by decide +kernel, rfl, rfl, by decide, wd_81⟩
theorem eX9_word_80 : eb_at mX9_word 80 81 (.iload_n 1) 1 := ⟨by decide +kernel, rfl⟩
theorem eX9_word_81 : eb_at mX9_word 81 82 (.laload) 1 := ⟨by decide +kernel, rfl⟩
theorem eX9_word_82 : eb_cs mX9_word 82 85 mX5_lengthOf 1 := ⟨171, by decide +kernel, rfl, wd_513, wd_303, by decide, okX5_lengthOf⟩
theorem eX9_word_85 : eb_at mX9_word 85 86 (.ireturn) 1 := ⟨by decide +kernel, rfl⟩
theorem eX9_word_86 : eb_at mX9_word 86 87 (.aload_n 0) 1 := ⟨by decide +kernel, rfl⟩
theorem eX9_word_87 : eb_gf mX9_word 87 90 8 5 := ⟨59, (RX9, TX9, 9), by decide +kernel, rfl, rfl, by decide, wd_349⟩
theorem eX9_word_90 : eb_at mX9_word 90 91 (.iload_n 1) 1 := ⟨by decide +kernel, rfl⟩
theorem eX9_word_91 : eb_cv mX9_word 91 94 mX3_lineOf 1 := ⟨174, (RX3, TX3, 13), by decide +kernel, rfl, wd_514, wd_515, wd_516, by decide, rfl, rfl, okX3_lineOf⟩
theorem eX9_word_94 : eb_at mX9_word 94 95 (.ireturn) 1 := ⟨by decide +kernel, rfl⟩
theorem eX9_word_95 : eb_at mX9_word 95 96 (.aload_n 0) 1 := ⟨by decide +kernel, rfl⟩
theorem eX9_word_96 : eb_at mX9_word 96 97 (.iload_n 1) 1 := ⟨by decide +kernel, rfl⟩
theorem eX9_word_97 : eb_cv mX9_word 97 100 mX9_grows 1 := ⟨177, (RX9, TX9, 9), by decide +kernel, rfl, wd_518, wd_520, wd_14, by decide, rfl, rfl, okX9_grows⟩
theorem eX9_word_100 : eb_at mX9_word 100 101 (.ireturn) 1 := ⟨by decide +kernel, rfl⟩
theorem eX9_word_101 : eb_at mX9_word 101 102 (.aload_n 0) 1 := ⟨by decide +kernel, rfl⟩
theorem eX9_word_102 : eb_gf mX9_word 102 105 8 0 := ⟨12, (RX9, TX9, 9), by decide +kernel, rfl, rfl, by decide, wd_344⟩
theorem eX9_word_105 : eb_gf mX9_word 105 108 6 0 := ⟨164, (RX7, TX7, 6), by decide +kernel, rfl, rfl, by decide, wd_81⟩
theorem eX9_word_108 : eb_at mX9_word 108 109 (.iload_n 1) 1 := ⟨by decide +kernel, rfl⟩
theorem eX9_word_109 : eb_at mX9_word 109 110 (.laload) 1 := ⟨by decide +kernel, rfl⟩
theorem eX9_word_110 : eb_at mX9_word 110 111 (.iload_n 2) 1 := ⟨by decide +kernel, rfl⟩
theorem eX9_word_111 : eb_at mX9_word 111 112 (.iconst 4) 1 := ⟨by decide +kernel, rfl⟩
theorem eX9_word_112 : eb_at mX9_word 112 113 (.isub) 1 := ⟨by decide +kernel, rfl⟩
theorem eX9_word_113 : eb_cs mX9_word 113 116 mX5_letterAt 2 := ⟨180, by decide +kernel, rfl, wd_526, wd_306, by decide, okX5_letterAt⟩
theorem eX9_word_116 : eb_at mX9_word 116 117 (.ireturn) 1 := ⟨by decide +kernel, rfl⟩
theorem eX9_write_0 : eb_at mX9_write 0 1 (.iload_n 2) 1 := ⟨by decide +kernel, rfl⟩
theorem eX9_write_1 : eb_at mX9_write 1 2 (.iconst (-1)) 1 := ⟨by decide +kernel, rfl⟩
theorem eX9_write_2 : eb_at mX9_write 2 5 (.if_icmp .eq 17) 3 := ⟨by decide +kernel, rfl⟩
theorem eX9_write_5 : eb_at mX9_write 5 6 (.aload_n 0) 1 := ⟨by decide +kernel, rfl⟩
theorem eX9_write_6 : eb_gf mX9_write 6 9 8 0 := ⟨12, (RX9, TX9, 9), by decide +kernel, rfl, rfl, by decide, wd_344⟩
theorem eX9_write_9 : eb_at mX9_write 9 10 (.iload_n 2) 1 := ⟨by decide +kernel, rfl⟩
theorem eX9_write_10 : eb_cv mX9_write 10 13 mX7_hasEnd 1 := ⟨184, (RX7, TX7, 6), by decide +kernel, rfl, wd_531, wd_532, wd_533, by decide, rfl, rfl, okX7_hasEnd⟩
theorem eX9_write_13 : eb_at mX9_write 13 16 (.ifCond .ne 6) 3 := ⟨by decide +kernel, rfl⟩
theorem eX9_write_16 : eb_at mX9_write 16 18 (.ldc 163) 2 := ⟨by decide +kernel, rfl⟩
theorem eX9_write_18 : eb_at mX9_write 18 19 (.ireturn) 1 := ⟨by decide +kernel, rfl⟩
theorem eX9_write_19 : eb_at mX9_write 19 20 (.iload_n 1) 1 := ⟨by decide +kernel, rfl⟩
theorem eX9_write_20 : eb_at mX9_write 20 23 (.ifCond .lt 9) 3 := ⟨by decide +kernel, rfl⟩
theorem eX9_write_23 : eb_at mX9_write 23 24 (.iload_n 1) 1 := ⟨by decide +kernel, rfl⟩
theorem eX9_write_24 : eb_at mX9_write 24 26 (.bipush 40) 2 := ⟨by decide +kernel, rfl⟩
theorem eX9_write_26 : eb_at mX9_write 26 29 (.if_icmp .lt 6) 3 := ⟨by decide +kernel, rfl⟩
theorem eX9_write_29 : eb_at mX9_write 29 31 (.ldc 77) 2 := ⟨by decide +kernel, rfl⟩
theorem eX9_write_31 : eb_at mX9_write 31 32 (.ireturn) 1 := ⟨by decide +kernel, rfl⟩
theorem eX9_write_32 : eb_at mX9_write 32 33 (.aload_n 0) 1 := ⟨by decide +kernel, rfl⟩
theorem eX9_write_33 : eb_gf mX9_write 33 36 8 8 := ⟨46, (RX9, TX9, 9), by decide +kernel, rfl, rfl, by decide, wd_352⟩
theorem eX9_write_36 : eb_at mX9_write 36 37 (.iload_n 1) 1 := ⟨by decide +kernel, rfl⟩
theorem eX9_write_37 : eb_at mX9_write 37 38 (.iload_n 2) 1 := ⟨by decide +kernel, rfl⟩
theorem eX9_write_38 : eb_cv mX9_write 38 41 mX0_add 2 := ⟨245, (RX0, TX0, 3), by decide +kernel, rfl, wd_672, wd_673, wd_674, by decide, rfl, rfl, okX0_add⟩
theorem eX9_write_41 : eb_at mX9_write 41 42 (.ireturn) 1 := ⟨by decide +kernel, rfl⟩
end
section
/-- a contract with one end -/
def eb_X (r : Option Value) (n : Nat) (h : eb_H) : Option Value → Nat → eb_H → Prop := fun r1 n1 h1 => r1 = r ∧ n1 = n ∧ h1 = h
theorem eb_div {a b : Int} (ha : 0 ≤ a ∧ a ≤ 2147483647) (hb : 0 < b ∧ b ≤ 2147483647) : eb_I a / eb_I b = eb_I (a / b) := by
  apply Int32.toInt_inj.mp
  have h1 : a / b ≤ a := Int.ediv_le_self b ha.1
  have h2 : 0 ≤ a / b := Int.ediv_nonneg ha.1 (by omega)
  rw [Int32.toInt_div, eb_I_to (by omega), eb_I_to (by omega), eb_I_to (by omega), Int.tdiv_eq_ediv_of_nonneg ha.1]
  apply Int.bmod_eq_of_le <;> omega
theorem eb_lcmp {a b : Int} (ha : -9223372036854775808 ≤ a ∧ a ≤ 9223372036854775807) (hb : -9223372036854775808 ≤ b ∧ b ≤ 9223372036854775807) : lg_cmp (eb_J a) (eb_J b) = eb_I (if b < a then 1 else if a = b then 0 else -1) := by
  unfold lg_cmp
  have h1 : (eb_J a > eb_J b) ↔ b < a := by
    show eb_J b < eb_J a ↔ _
    rw [Int64.lt_iff_toInt_lt, eb_J_to ha, eb_J_to hb]
  have h2 : (eb_J a = eb_J b) ↔ a = b := by
    constructor
    · intro q; rw [← eb_J_to ha, q, eb_J_to hb]
    · rintro rfl; rfl
  by_cases c1 : b < a
  · rw [if_pos (h1.mpr c1), if_pos c1]; rfl
  · rw [if_neg (fun q => c1 (h1.mp q)), if_neg c1]
    by_cases c2 : a = b
    · rw [if_pos (h2.mpr c2), if_pos c2]; rfl
    · rw [if_neg (fun q => c2 (h2.mp q)), if_neg c2]; rfl
theorem eb_i2l {a : Int} (ha : -2147483648 ≤ a ∧ a ≤ 2147483647) : (eb_I a).toInt64 = eb_J a := by
  apply Int64.toInt_inj.mp
  rw [Int32.toInt_toInt64, eb_I_to ha, eb_J_to (by omega)]
theorem eb_l2i {a : Int} : (eb_J a).toInt32 = eb_I a := Int64.toInt32_ofInt
section EBM
variable {M : eb_M} {E : Nat → Nat → State → Prop} {pc pc' : Nat} {ls st stk : List Value} {z : eb_Z} {n c s : Nat} {h h' : eb_H} {Q : Nat → List Value → List Value → eb_Z → eb_H → Prop}
theorem V_idivI {a b : Int} (hd : eb_at M pc pc' .idiv 1) (ha : 0 ≤ a ∧ a ≤ 2147483647) (hb : 0 < b ∧ b ≤ 2147483647) (k : eb_V M E pc' ls (.int (eb_I (a / b)) :: st) z h Q) : eb_V M E pc ls (.int (eb_I b) :: .int (eb_I a) :: st) z h Q :=
  V_idiv hd (fun q => by rw [show (0 : Int32) = eb_I 0 from rfl, eb_I_inj (by omega) (by omega)] at q; omega) (eb_div ha hb) k
theorem V_iremI {a b : Int} (hd : eb_at M pc pc' .irem 1) (ha : 0 ≤ a ∧ a ≤ 2147483647) (hb : 0 < b ∧ b ≤ 2147483647) (k : eb_V M E pc' ls (.int (eb_I (a % b)) :: st) z h Q) : eb_V M E pc ls (.int (eb_I b) :: .int (eb_I a) :: st) z h Q :=
  V_irem hd (fun q => by rw [show (0 : Int32) = eb_I 0 from rfl, eb_I_inj (by omega) (by omega)] at q; omega) (by rw [eb_div ha hb, eb_I_mul, eb_I_sub, Int.emod_def, Int.mul_comm]) k
theorem V_i2lI {a : Int} (hd : eb_at M pc pc' .i2l 1) (ha : -2147483648 ≤ a ∧ a ≤ 2147483647) (k : eb_V M E pc' ls (.long (eb_J a) :: st) z h Q) : eb_V M E pc ls (.int (eb_I a) :: st) z h Q := V_i2l hd (eb_i2l ha) k
theorem V_l2iI {a : Int} (hd : eb_at M pc pc' .l2i 1) (k : eb_V M E pc' ls (.int (eb_I a) :: st) z h Q) : eb_V M E pc ls (.long (eb_J a) :: st) z h Q := V_l2i hd eb_l2i k
theorem V_lcmpI {a b : Int} (hd : eb_at M pc pc' .lcmp 1) (hr : (-9223372036854775808 ≤ a ∧ a ≤ 9223372036854775807) ∧ (-9223372036854775808 ≤ b ∧ b ≤ 9223372036854775807)) (k : eb_V M E pc' ls (.int (eb_I (if b < a then 1 else if a = b then 0 else -1)) :: st) z h Q) : eb_V M E pc ls (.long (eb_J b) :: .long (eb_J a) :: st) z h Q := V_lcmp hd (eb_lcmp hr.1 hr.2) k
theorem V_cvi {M' : eb_M} {np b : Nat} {As fs : List Value} {v : Value} (hd : eb_cv M pc pc' M' np) (T : eb_T M' (.ref b :: As) n h (eb_X (some v) n h')) (he : h b = .inr (eb_ci M', fs)) (hs : stk = As.reverse ++ .ref b :: st) (hn : As.length = np) (hst : (st.map Value.category).sum ≤ 8) (hm : eb_mc M' = 0 ∧ eb_ms M' = 0) (hc : c ≤ eb_mc M ∧ s ≤ eb_ms M)
    (k : eb_V M E pc' ls (v :: st) (n, c, s) h' Q) : eb_V M E pc ls stk (n, c, s) h Q :=
  V_callv hd T he hs hn hst (by rw [hm.1, hm.2]; exact hc) (Or.inl hm.1) (fun r n1 h1 q => by obtain ⟨rfl, rfl, rfl⟩ := q; rw [hm.1, hm.2]; exact k)
theorem V_cvv {M' : eb_M} {np b : Nat} {As fs : List Value} (hd : eb_cv M pc pc' M' np) (T : eb_T M' (.ref b :: As) n h (eb_X none n h')) (he : h b = .inr (eb_ci M', fs)) (hs : stk = As.reverse ++ .ref b :: st) (hn : As.length = np) (hst : (st.map Value.category).sum ≤ 8) (hm : eb_mc M' = 0 ∧ eb_ms M' = 0) (hc : c ≤ eb_mc M ∧ s ≤ eb_ms M)
    (k : eb_V M E pc' ls st (n, c, s) h' Q) : eb_V M E pc ls stk (n, c, s) h Q :=
  V_callv hd T he hs hn hst (by rw [hm.1, hm.2]; exact hc) (Or.inl hm.1) (fun r n1 h1 q => by obtain ⟨rfl, rfl, rfl⟩ := q; rw [hm.1, hm.2]; exact k)
theorem V_csi {M' : eb_M} {np : Nat} {As : List Value} {v : Value} (hd : eb_cs M pc pc' M' np) (T : eb_T M' As n h (eb_X (some v) n h')) (hs : stk = As.reverse ++ st) (hn : As.length = np) (hst : (st.map Value.category).sum ≤ 8) (hm : eb_mc M' = 0 ∧ eb_ms M' = 0) (hc : c ≤ eb_mc M ∧ s ≤ eb_ms M)
    (k : eb_V M E pc' ls (v :: st) (n, c, s) h' Q) : eb_V M E pc ls stk (n, c, s) h Q :=
  V_calls hd T hs hn hst (by rw [hm.1, hm.2]; exact hc) (Or.inl hm.1) (fun r n1 h1 q => by obtain ⟨rfl, rfl, rfl⟩ := q; rw [hm.1, hm.2]; exact k)
theorem V_mmax {a b : Int} (hd : eb_cs M pc pc' mJ_max 2) (hr : (-2147483648 ≤ a ∧ a ≤ 2147483647) ∧ (-2147483648 ≤ b ∧ b ≤ 2147483647)) (hst : (st.map Value.category).sum ≤ 8) (hc : c ≤ eb_mc M ∧ s ≤ eb_ms M) (k : eb_V M E pc' ls (.int (eb_I (max a b)) :: st) (n, c, s) h Q) : eb_V M E pc ls (.int (eb_I b) :: .int (eb_I a) :: st) (n, c, s) h Q := by
  obtain ⟨idx, hd, rfl, hlk, hstt, hlv, hok⟩ := hd
  refine eb_V.go (fun l D cs b0 bs p e R s' m args below meth c' Zf C hE H locs l' hP hL kk => ?_) k
  have hts := C.2.2.2.2.1
  have hR := C.2.2.2.2.2.1
  have hC := C.2.2.2.2.2.2.1
  have hro := eb_room (b0 := b0) (bs := bs) hst
  have hlv' : 1 ≤ eb_lv M := by omega
  have e1 : (if eb_I a < eb_I b then eb_I b else eb_I a) = eb_I (max a b) := by
    by_cases q : a < b
    · rw [if_pos ((eb_I_lt hr.1 hr.2).mpr q)]; congr 1; omega
    · rw [if_neg (fun w => q ((eb_I_lt hr.1 hr.2).mp w))]; congr 1; omega
  refine va_mmax (x := eb_I a) (y := eb_I b) C.1 C.2.1 (C.2.2.1.trans hL.1.symm) C.2.2.2.1 (hts _ hlk) (hts _ hstt) (hts _ hok.2.1) (hts _ hok.1) (by omega) (by omega) (by simp only; omega) (by simp only; omega) hd ?_
  rw [e1]
  exact kk H locs l' hP hL
theorem V_mmin {a b : Int} (hd : eb_cs M pc pc' mJ_min 2) (hr : (-2147483648 ≤ a ∧ a ≤ 2147483647) ∧ (-2147483648 ≤ b ∧ b ≤ 2147483647)) (hst : (st.map Value.category).sum ≤ 8) (hc : c ≤ eb_mc M ∧ s ≤ eb_ms M) (k : eb_V M E pc' ls (.int (eb_I (min a b)) :: st) (n, c, s) h Q) : eb_V M E pc ls (.int (eb_I b) :: .int (eb_I a) :: st) (n, c, s) h Q := by
  obtain ⟨idx, hd, rfl, hlk, hstt, hlv, hok⟩ := hd
  refine eb_V.go (fun l D cs b0 bs p e R s' m args below meth c' Zf C hE H locs l' hP hL kk => ?_) k
  have hts := C.2.2.2.2.1
  have hR := C.2.2.2.2.2.1
  have hC := C.2.2.2.2.2.2.1
  have hro := eb_room (b0 := b0) (bs := bs) hst
  have hlv' : 1 ≤ eb_lv M := by omega
  have e1 : (if eb_I b < eb_I a then eb_I b else eb_I a) = eb_I (min a b) := by
    by_cases q : b < a
    · rw [if_pos ((eb_I_lt hr.2 hr.1).mpr q)]; congr 1; omega
    · rw [if_neg (fun w => q ((eb_I_lt hr.2 hr.1).mp w))]; congr 1; omega
  refine va_mmin (x := eb_I a) (y := eb_I b) C.1 C.2.1 (C.2.2.1.trans hL.1.symm) C.2.2.2.1 (hts _ hlk) (hts _ hstt) (hts _ hok.2.1) (hts _ hok.1) (by omega) (by omega) (by simp only; omega) (by simp only; omega) hd ?_
  rw [e1]
  exact kk H locs l' hP hL
/-- a contract whose end is told by a predicate -/
def eb_G (v : Option Value) (n : Nat) (G : eb_H → Prop) : Option Value → Nat → eb_H → Prop := fun r1 n1 h1 => r1 = v ∧ n1 = n ∧ G h1
theorem V_cvg {M' : eb_M} {np b : Nat} {As fs : List Value} {v : Option Value} {G : eb_H → Prop} (hd : eb_cv M pc pc' M' np) (T : eb_T M' (.ref b :: As) n h (eb_G v n G)) (he : h b = .inr (eb_ci M', fs)) (hs : stk = As.reverse ++ .ref b :: st) (hn : As.length = np) (hst : (st.map Value.category).sum ≤ 8) (hm : eb_mc M' = 0 ∧ eb_ms M' = 0) (hc : c ≤ eb_mc M ∧ s ≤ eb_ms M)
    (k : ∀ h', G h' → eb_V M E pc' ls (v.toList ++ st) (n, c, s) h' Q) : eb_V M E pc ls stk (n, c, s) h Q :=
  V_callv hd T he hs hn hst (by rw [hm.1, hm.2]; exact hc) (Or.inl hm.1) (fun r n1 h1 q => by obtain ⟨rfl, rfl, q⟩ := q; rw [hm.1, hm.2]; exact k _ q)
end EBM
end
section
theorem nx_and (a b : Nat) : nI a &&& nI b = nI (a &&& b) := by
  apply Int32.toBitVec_inj.1
  show BitVec.ofNat 32 a &&& BitVec.ofNat 32 b = BitVec.ofNat 32 (a &&& b)
  apply BitVec.eq_of_getLsbD_eq
  intro i hi
  simp [hi]
theorem wb_tb (n : Nat) : (lN n).toBitVec = BitVec.ofNat 64 n := rfl
theorem wb_inj {a b : Int64} (h : a.toBitVec = b.toBitVec) : a = b := Int64.toBitVec_inj.mp h
theorem wb_tn {n : Nat} (h : n < 2 ^ 64) : (lN n).toBitVec.toNat = n := by rw [wb_tb, BitVec.toNat_ofNat, Nat.mod_eq_of_lt h]
theorem wb_c : ∀ k, k < 64 → ((nI k).toInt64 &&& 63) = lN k := by decide +kernel
theorem wb_sm : ∀ k, k < 64 → (BitVec.ofNat 64 k).smod 64 = BitVec.ofNat 64 k := by decide +kernel
theorem wb_lt2 {a b : Nat} (h : a < b) : 2 ^ a < 2 ^ b := Nat.pow_lt_pow_right (by decide) h
theorem wb_shl (n : Nat) {k : Nat} (hk : k < 64) : lN n <<< ((nI k).toInt64 &&& 63) = lN (n * 2 ^ k) := by
  rw [wb_c k hk]
  apply wb_inj
  rw [Int64.toBitVec_shiftLeft, wb_tb, wb_tb, wb_tb, wb_sm k hk]
  apply BitVec.eq_of_toNat_eq
  rw [BitVec.shiftLeft_eq', BitVec.toNat_shiftLeft, BitVec.toNat_ofNat, BitVec.toNat_ofNat, BitVec.toNat_ofNat, Nat.mod_eq_of_lt (show k < 2 ^ 64 by omega), Nat.shiftLeft_eq, Nat.mul_mod, Nat.mod_mod, ← Nat.mul_mod]
theorem wb_and {a b : Nat} (ha : a < 2 ^ 64) (hb : b < 2 ^ 64) : lN a &&& lN b = lN (a &&& b) := by
  apply wb_inj
  rw [Int64.toBitVec_and, wb_tb, wb_tb, wb_tb]
  apply BitVec.eq_of_toNat_eq
  rw [BitVec.toNat_and, BitVec.toNat_ofNat, BitVec.toNat_ofNat, BitVec.toNat_ofNat, Nat.mod_eq_of_lt ha, Nat.mod_eq_of_lt hb, Nat.mod_eq_of_lt (Nat.and_lt_two_pow _ hb)]
theorem wb_or {a b : Nat} (ha : a < 2 ^ 64) (hb : b < 2 ^ 64) : lN a ||| lN b = lN (a ||| b) := by
  apply wb_inj
  rw [Int64.toBitVec_or, wb_tb, wb_tb, wb_tb]
  apply BitVec.eq_of_toNat_eq
  rw [BitVec.toNat_or, BitVec.toNat_ofNat, BitVec.toNat_ofNat, BitVec.toNat_ofNat, Nat.mod_eq_of_lt ha, Nat.mod_eq_of_lt hb, Nat.mod_eq_of_lt (Nat.or_lt_two_pow ha hb)]
theorem wb_mask {n k : Nat} (hn : n < 2 ^ 64) (hk : k < 64) : lN n &&& lN (2 ^ k - 1) = lN (n % 2 ^ k) := by
  rw [wb_and hn (by have := wb_lt2 hk; omega), Nat.and_two_pow_sub_one_eq_mod]
theorem pf_lI {a : Nat} (h : a < 2 ^ 63) : (lN a).toInt = (a : Int) := lg_ofNat_toInt h
theorem pf_shr {a d : Nat} {D : Int64} (hD : (D.toBitVec.smod 64).toNat = d) (h : a < 2 ^ 62) : lN a >>> D = lN (a / 2 ^ d) := by
  have hd : a / 2 ^ d ≤ a := Nat.div_le_self _ _
  apply Int64.toInt_inj.mp
  have e : (lN a >>> D).toInt = (lN a).toInt >>> d := by
    rw [← hD]
    exact BitVec.toInt_sshiftRight ..
  rw [e, Int.shiftRight_eq_div_pow, pf_lI (by omega), pf_lI (by omega)]
  rfl
theorem eb_Jn (n : Nat) : eb_J (n : Int) = lN n := Int64.ofInt_eq_ofNat (n := n)
theorem eb_In (n : Nat) : eb_I (n : Int) = nI n := Int32.ofInt_eq_ofNat (n := n)
theorem eb_shl {a k : Nat} (hk : k < 64) : eb_J (a : Int) <<< ((eb_I (k : Int)).toInt64 &&& 63) = eb_J ((a * 2 ^ k : Nat) : Int) := by
  rw [eb_Jn, eb_Jn, eb_In, wb_shl a hk]
theorem eb_shr {a k : Nat} (ha : a < 2 ^ 62) (hk : k < 64) : eb_J (a : Int) >>> ((eb_I (k : Int)).toInt64 &&& 63) = eb_J ((a / 2 ^ k : Nat) : Int) := by
  rw [eb_Jn, eb_Jn, eb_In, wb_c k hk]
  exact pf_shr (by rw [wb_tb, wb_sm k hk, BitVec.toNat_ofNat]; exact Nat.mod_eq_of_lt (by omega)) ha
theorem eb_or {a b : Nat} (ha : a < 2 ^ 64) (hb : b < 2 ^ 64) : eb_J (a : Int) ||| eb_J (b : Int) = eb_J ((a ||| b : Nat) : Int) := by
  rw [eb_Jn, eb_Jn, eb_Jn, wb_or ha hb]
theorem eb_and {a b : Nat} (ha : a < 2 ^ 64) (hb : b < 2 ^ 64) : eb_J (a : Int) &&& eb_J (b : Int) = eb_J ((a &&& b : Nat) : Int) := by
  rw [eb_Jn, eb_Jn, eb_Jn, wb_and ha hb]
theorem eb_and1 {a : Nat} (ha : a < 2 ^ 64) : eb_J (a : Int) &&& eb_J 1 = eb_J ((a % 2 : Nat) : Int) := by
  have := eb_and (a := a) (b := 1) ha (by decide)
  rw [Nat.and_one_is_mod] at this
  exact this
theorem eb_and31 (a : Nat) : eb_I (a : Int) &&& eb_I 31 = eb_I ((a % 32 : Nat) : Int) := by
  rw [eb_In, eb_In, show eb_I 31 = nI 31 from eb_In 31, nx_and]
  congr 1
  exact Nat.and_two_pow_sub_one_eq_mod a 5
end
section
/-! letters: their widths; words as longs -/
def sp_lw (c : Int) : Int := if c = 102 ∨ c = 105 ∨ c = 106 ∨ c = 108 ∨ c = 114 ∨ c = 116 then 1 else if c = 109 ∨ c = 119 then 3 else 2
theorem c_X5_letterWidth {n : Nat} {h : eb_H} {c : Int} (hc : -2147483648 ≤ c ∧ c ≤ 2147483647) : eb_T mX5_letterWidth [.int (eb_I c)] n h (eb_X (some (.int (eb_I (sp_lw c)))) n h) := by
  refine eb_T.of (by decide +kernel) (Nat.le_of_ble_eq_true rfl) ?_
  show eb_V _ _ 0 [.int (eb_I c)] [] (n, 0, 0) h _
  by_cases h1 : c < 102 ∨ 119 < c
  · have e1 : sp_lw c = 2 := by unfold sp_lw; rw [if_neg (by omega), if_neg (by omega)]
    rw [e1]
    refine V_iload_n eX5_letterWidth_0 rfl rfl ?_
    refine V_tswOut (tgt := 92) eX5_letterWidth_1 (by omega) (h1) rfl ?_
    refine V_iconst eX5_letterWidth_92 ?_
    exact V_iret eX5_letterWidth_93 ⟨Nat.zero_le _, Nat.zero_le _⟩ rfl (rfl) (⟨rfl, rfl, rfl⟩)
  · obtain rfl | rfl | rfl | rfl | rfl | rfl | rfl | rfl | rfl | rfl | rfl | rfl | rfl | rfl | rfl | rfl | rfl | rfl : c = 102 ∨ c = 103 ∨ c = 104 ∨ c = 105 ∨ c = 106 ∨ c = 107 ∨ c = 108 ∨ c = 109 ∨ c = 110 ∨ c = 111 ∨ c = 112 ∨ c = 113 ∨ c = 114 ∨ c = 115 ∨ c = 116 ∨ c = 117 ∨ c = 118 ∨ c = 119 := by omega
    · refine V_iload_n eX5_letterWidth_0 rfl rfl ?_
      refine V_tswIn (tgt := 88) (off := 87) eX5_letterWidth_1 (by omega) (by omega) rfl rfl ?_
      refine V_iconst eX5_letterWidth_88 ?_
      exact V_iret eX5_letterWidth_89 ⟨Nat.zero_le _, Nat.zero_le _⟩ rfl (rfl) (⟨rfl, rfl, rfl⟩)
    · refine V_iload_n eX5_letterWidth_0 rfl rfl ?_
      refine V_tswIn (tgt := 92) (off := 91) eX5_letterWidth_1 (by omega) (by omega) rfl rfl ?_
      refine V_iconst eX5_letterWidth_92 ?_
      exact V_iret eX5_letterWidth_93 ⟨Nat.zero_le _, Nat.zero_le _⟩ rfl (rfl) (⟨rfl, rfl, rfl⟩)
    · refine V_iload_n eX5_letterWidth_0 rfl rfl ?_
      refine V_tswIn (tgt := 92) (off := 91) eX5_letterWidth_1 (by omega) (by omega) rfl rfl ?_
      refine V_iconst eX5_letterWidth_92 ?_
      exact V_iret eX5_letterWidth_93 ⟨Nat.zero_le _, Nat.zero_le _⟩ rfl (rfl) (⟨rfl, rfl, rfl⟩)
    · refine V_iload_n eX5_letterWidth_0 rfl rfl ?_
      refine V_tswIn (tgt := 88) (off := 87) eX5_letterWidth_1 (by omega) (by omega) rfl rfl ?_
      refine V_iconst eX5_letterWidth_88 ?_
      exact V_iret eX5_letterWidth_89 ⟨Nat.zero_le _, Nat.zero_le _⟩ rfl (rfl) (⟨rfl, rfl, rfl⟩)
    · refine V_iload_n eX5_letterWidth_0 rfl rfl ?_
      refine V_tswIn (tgt := 88) (off := 87) eX5_letterWidth_1 (by omega) (by omega) rfl rfl ?_
      refine V_iconst eX5_letterWidth_88 ?_
      exact V_iret eX5_letterWidth_89 ⟨Nat.zero_le _, Nat.zero_le _⟩ rfl (rfl) (⟨rfl, rfl, rfl⟩)
    · refine V_iload_n eX5_letterWidth_0 rfl rfl ?_
      refine V_tswIn (tgt := 92) (off := 91) eX5_letterWidth_1 (by omega) (by omega) rfl rfl ?_
      refine V_iconst eX5_letterWidth_92 ?_
      exact V_iret eX5_letterWidth_93 ⟨Nat.zero_le _, Nat.zero_le _⟩ rfl (rfl) (⟨rfl, rfl, rfl⟩)
    · refine V_iload_n eX5_letterWidth_0 rfl rfl ?_
      refine V_tswIn (tgt := 88) (off := 87) eX5_letterWidth_1 (by omega) (by omega) rfl rfl ?_
      refine V_iconst eX5_letterWidth_88 ?_
      exact V_iret eX5_letterWidth_89 ⟨Nat.zero_le _, Nat.zero_le _⟩ rfl (rfl) (⟨rfl, rfl, rfl⟩)
    · refine V_iload_n eX5_letterWidth_0 rfl rfl ?_
      refine V_tswIn (tgt := 90) (off := 89) eX5_letterWidth_1 (by omega) (by omega) rfl rfl ?_
      refine V_iconst eX5_letterWidth_90 ?_
      exact V_iret eX5_letterWidth_91 ⟨Nat.zero_le _, Nat.zero_le _⟩ rfl (rfl) (⟨rfl, rfl, rfl⟩)
    · refine V_iload_n eX5_letterWidth_0 rfl rfl ?_
      refine V_tswIn (tgt := 92) (off := 91) eX5_letterWidth_1 (by omega) (by omega) rfl rfl ?_
      refine V_iconst eX5_letterWidth_92 ?_
      exact V_iret eX5_letterWidth_93 ⟨Nat.zero_le _, Nat.zero_le _⟩ rfl (rfl) (⟨rfl, rfl, rfl⟩)
    · refine V_iload_n eX5_letterWidth_0 rfl rfl ?_
      refine V_tswIn (tgt := 92) (off := 91) eX5_letterWidth_1 (by omega) (by omega) rfl rfl ?_
      refine V_iconst eX5_letterWidth_92 ?_
      exact V_iret eX5_letterWidth_93 ⟨Nat.zero_le _, Nat.zero_le _⟩ rfl (rfl) (⟨rfl, rfl, rfl⟩)
    · refine V_iload_n eX5_letterWidth_0 rfl rfl ?_
      refine V_tswIn (tgt := 92) (off := 91) eX5_letterWidth_1 (by omega) (by omega) rfl rfl ?_
      refine V_iconst eX5_letterWidth_92 ?_
      exact V_iret eX5_letterWidth_93 ⟨Nat.zero_le _, Nat.zero_le _⟩ rfl (rfl) (⟨rfl, rfl, rfl⟩)
    · refine V_iload_n eX5_letterWidth_0 rfl rfl ?_
      refine V_tswIn (tgt := 92) (off := 91) eX5_letterWidth_1 (by omega) (by omega) rfl rfl ?_
      refine V_iconst eX5_letterWidth_92 ?_
      exact V_iret eX5_letterWidth_93 ⟨Nat.zero_le _, Nat.zero_le _⟩ rfl (rfl) (⟨rfl, rfl, rfl⟩)
    · refine V_iload_n eX5_letterWidth_0 rfl rfl ?_
      refine V_tswIn (tgt := 88) (off := 87) eX5_letterWidth_1 (by omega) (by omega) rfl rfl ?_
      refine V_iconst eX5_letterWidth_88 ?_
      exact V_iret eX5_letterWidth_89 ⟨Nat.zero_le _, Nat.zero_le _⟩ rfl (rfl) (⟨rfl, rfl, rfl⟩)
    · refine V_iload_n eX5_letterWidth_0 rfl rfl ?_
      refine V_tswIn (tgt := 92) (off := 91) eX5_letterWidth_1 (by omega) (by omega) rfl rfl ?_
      refine V_iconst eX5_letterWidth_92 ?_
      exact V_iret eX5_letterWidth_93 ⟨Nat.zero_le _, Nat.zero_le _⟩ rfl (rfl) (⟨rfl, rfl, rfl⟩)
    · refine V_iload_n eX5_letterWidth_0 rfl rfl ?_
      refine V_tswIn (tgt := 88) (off := 87) eX5_letterWidth_1 (by omega) (by omega) rfl rfl ?_
      refine V_iconst eX5_letterWidth_88 ?_
      exact V_iret eX5_letterWidth_89 ⟨Nat.zero_le _, Nat.zero_le _⟩ rfl (rfl) (⟨rfl, rfl, rfl⟩)
    · refine V_iload_n eX5_letterWidth_0 rfl rfl ?_
      refine V_tswIn (tgt := 92) (off := 91) eX5_letterWidth_1 (by omega) (by omega) rfl rfl ?_
      refine V_iconst eX5_letterWidth_92 ?_
      exact V_iret eX5_letterWidth_93 ⟨Nat.zero_le _, Nat.zero_le _⟩ rfl (rfl) (⟨rfl, rfl, rfl⟩)
    · refine V_iload_n eX5_letterWidth_0 rfl rfl ?_
      refine V_tswIn (tgt := 92) (off := 91) eX5_letterWidth_1 (by omega) (by omega) rfl rfl ?_
      refine V_iconst eX5_letterWidth_92 ?_
      exact V_iret eX5_letterWidth_93 ⟨Nat.zero_le _, Nat.zero_le _⟩ rfl (rfl) (⟨rfl, rfl, rfl⟩)
    · refine V_iload_n eX5_letterWidth_0 rfl rfl ?_
      refine V_tswIn (tgt := 90) (off := 89) eX5_letterWidth_1 (by omega) (by omega) rfl rfl ?_
      refine V_iconst eX5_letterWidth_90 ?_
      exact V_iret eX5_letterWidth_91 ⟨Nat.zero_le _, Nat.zero_le _⟩ rfl (rfl) (⟨rfl, rfl, rfl⟩)
def sp_enc : List Nat → Nat
  | [] => 0
  | c :: t => (c - 96) + 32 * sp_enc t
def sp_ok (l : List Nat) : Prop := (∀ c ∈ l, 97 ≤ c ∧ c ≤ 122) ∧ l.length ≤ 12
def sp_at (l : List Nat) (i : Nat) : Int := match l[i]? with
  | some c => (c : Int)
  | none => -1
def sp_ww (l : List Nat) : Int := (l.map (fun c : Nat => sp_lw (c : Int))).sum
theorem sp_enc_lt (l : List Nat) (h : ∀ c ∈ l, 97 ≤ c ∧ c ≤ 122) : sp_enc l < 32 ^ l.length := by
  induction l with
  | nil => decide
  | cons c t ih =>
    have h1 := ih (fun x hx => h x (List.mem_cons_of_mem _ hx))
    have h2 := h c List.mem_cons_self
    simp only [sp_enc, List.length_cons, Nat.pow_succ]
    omega
theorem sp_enc_at (l : List Nat) (h : ∀ c ∈ l, 97 ≤ c ∧ c ≤ 122) (i : Nat) : sp_enc l / 32 ^ i % 32 = match l[i]? with
    | some c => c - 96
    | none => 0 := by
  induction l generalizing i with
  | nil => simp [sp_enc]
  | cons c t ih =>
    have h2 := h c List.mem_cons_self
    cases i with
    | zero =>
      simp only [sp_enc, Nat.pow_zero, Nat.div_one, List.getElem?_cons_zero]
      have h3 : c - 96 ≤ 26 := by omega
      generalize c - 96 = d at h3 ⊢
      omega
    | succ i =>
      simp only [List.getElem?_cons_succ]
      rw [← ih (fun x hx => h x (List.mem_cons_of_mem _ hx)) i, Nat.pow_succ, Nat.mul_comm, ← Nat.div_div_eq_div_mul]
      congr 2
      simp only [sp_enc]
      have h3 : c - 96 ≤ 26 := by omega
      generalize c - 96 = d at h3 ⊢
      omega
theorem sp_enc_app (l : List Nat) (c : Nat) : sp_enc (l ++ [c]) = sp_enc l + 32 ^ l.length * (c - 96) := by
  induction l with
  | nil => simp [sp_enc]
  | cons a t ih =>
    simp only [List.cons_append, sp_enc, ih, List.length_cons, Nat.pow_succ, Nat.mul_add]
    rw [show 32 ^ t.length * 32 * (c - 96) = 32 * (32 ^ t.length * (c - 96)) by rw [Nat.mul_comm (32 ^ t.length) 32, Nat.mul_assoc]]
    omega
theorem sp_enc_62 {l : List Nat} (h : sp_ok l) : sp_enc l < 2 ^ 60 := by
  have h1 := sp_enc_lt l h.1
  have h2 : 32 ^ l.length ≤ 32 ^ 12 := Nat.pow_le_pow_right (by decide) h.2
  have h3 : (32 : Nat) ^ 12 = 2 ^ 60 := by decide
  omega
theorem c_X5_withLetter {n : Nat} {h : eb_H} {l : List Nat} {c : Nat} (hl : sp_ok l) (hn : l.length < 12) (hc : 97 ≤ c ∧ c ≤ 122) : eb_T mX5_withLetter [.long (eb_J (sp_enc l : Int)), .int (eb_I (l.length : Int)), .int (eb_I (c : Int))] n h (eb_X (some (.long (eb_J (sp_enc (l ++ [c]) : Int)))) n h) := by
  refine eb_T.of (by decide +kernel) (Nat.le_of_ble_eq_true rfl) ?_
  show eb_V _ _ 0 [.long (eb_J (sp_enc l : Int)), eb_no, .int (eb_I (l.length : Int)), .int (eb_I (c : Int))] [] (n, 0, 0) h _
  have hlt := sp_enc_lt l hl.1
  have h62 := sp_enc_62 hl
  have hp : (32 : Nat) ^ l.length = 2 ^ (5 * l.length) := by rw [Nat.pow_mul]
  have hb : (c - 96) * 2 ^ (5 * l.length) < 2 ^ 60 := by
    have h3 : 2 ^ (5 * l.length) ≤ 2 ^ 55 := Nat.pow_le_pow_right (by decide) (by omega)
    have h4 : (c - 96) * 2 ^ (5 * l.length) ≤ 31 * 2 ^ 55 := Nat.mul_le_mul (by omega) h3
    omega
  have e1 : sp_enc l ||| (c - 96) * 2 ^ (5 * l.length) = sp_enc (l ++ [c]) := by
    rw [sp_enc_app, hp, Nat.add_comm, Nat.two_pow_add_eq_or_of_lt (by rw [← hp]; exact hlt), Nat.or_comm, Nat.mul_comm]
  refine V_lload_n eX5_withLetter_0 rfl rfl ?_
  refine V_iload_n eX5_withLetter_1 rfl rfl ?_
  refine V_bipush eX5_withLetter_2 (by decide) ?_
  refine V_isub eX5_withLetter_4 ?_
  refine V_iconst eX5_withLetter_5 ?_
  refine V_iadd eX5_withLetter_6 ?_
  refine V_eqI (b := ((c - 96 : Nat) : Int)) (by omega) ?_
  refine V_i2lI eX5_withLetter_7 (by omega) ?_
  refine V_iconst eX5_withLetter_8 ?_
  refine V_iload_n eX5_withLetter_9 rfl rfl ?_
  refine V_imul eX5_withLetter_10 ?_
  refine V_eqI (b := ((5 * l.length : Nat) : Int)) (by omega) ?_
  refine V_lshl eX5_withLetter_11 (eb_shl (by omega)) ?_
  refine V_lor eX5_withLetter_12 (eb_or (by omega) (by omega)) ?_
  exact V_lret eX5_withLetter_13 ⟨Nat.zero_le _, Nat.zero_le _⟩ rfl (⟨by rw [e1], rfl, rfl⟩)
theorem c_X5_letterAt {n : Nat} {h : eb_H} {l : List Nat} {i : Nat} (hl : sp_ok l) (hi : i < 12) : eb_T mX5_letterAt [.long (eb_J (sp_enc l : Int)), .int (eb_I (i : Int))] n h (eb_X (some (.int (eb_I (sp_at l i)))) n h) := by
  refine eb_T.of (by decide +kernel) (Nat.le_of_ble_eq_true rfl) ?_
  show eb_V _ _ 0 [.long (eb_J (sp_enc l : Int)), eb_no, .int (eb_I (i : Int)), eb_no] [] (n, 0, 0) h _
  have h62 := sp_enc_62 hl
  have hp : (32 : Nat) ^ i = 2 ^ (5 * i) := by rw [Nat.pow_mul]
  have e1 := sp_enc_at l hl.1 i
  rw [hp] at e1
  cases hc : l[i]? with
  | none =>
    rw [hc] at e1
    have e2 : sp_at l i = -1 := by simp [sp_at, hc]
    rw [e2]
    refine V_lload_n eX5_letterAt_0 rfl rfl ?_
    refine V_iconst eX5_letterAt_1 ?_
    refine V_iload_n eX5_letterAt_2 rfl rfl ?_
    refine V_imul eX5_letterAt_3 ?_
    refine V_eqI (b := ((5 * i : Nat) : Int)) (by omega) ?_
    refine V_lshr eX5_letterAt_4 (eb_shr (by omega) (by omega)) ?_
    refine V_l2iI eX5_letterAt_5 ?_
    refine V_bipush eX5_letterAt_6 (by decide) ?_
    refine V_iand eX5_letterAt_8 (eb_and31 _) ?_
    refine V_eqI (b := 0) (by simp only at e1; omega) ?_
    refine V_istore_n eX5_letterAt_9 rfl (Nat.le_of_ble_eq_true rfl) rfl (eb_sS (eb_sS (eb_sS eb_s0))) ?_
    refine V_iload_n eX5_letterAt_10 rfl rfl ?_
    refine V_if_ne (tgt := 18) eX5_letterAt_11 rfl (by omega) (fun c_11 => absurd rfl c_11) (fun c_11 => ?_)
    refine V_iconst eX5_letterAt_14 ?_
    refine V_goto (tgt := 24) eX5_letterAt_15 rfl ?_
    exact V_iret eX5_letterAt_24 ⟨Nat.zero_le _, Nat.zero_le _⟩ rfl (rfl) (⟨rfl, rfl, rfl⟩)
  | some c =>
    rw [hc] at e1
    have hcr := hl.1 c (List.mem_of_getElem? hc)
    have e2 : sp_at l i = (c : Int) := by simp [sp_at, hc]
    rw [e2]
    refine V_lload_n eX5_letterAt_0 rfl rfl ?_
    refine V_iconst eX5_letterAt_1 ?_
    refine V_iload_n eX5_letterAt_2 rfl rfl ?_
    refine V_imul eX5_letterAt_3 ?_
    refine V_eqI (b := ((5 * i : Nat) : Int)) (by omega) ?_
    refine V_lshr eX5_letterAt_4 (eb_shr (by omega) (by omega)) ?_
    refine V_l2iI eX5_letterAt_5 ?_
    refine V_bipush eX5_letterAt_6 (by decide) ?_
    refine V_iand eX5_letterAt_8 (eb_and31 _) ?_
    refine V_eqI (b := (c : Int) - 96) (by simp only at e1; omega) ?_
    refine V_istore_n eX5_letterAt_9 rfl (Nat.le_of_ble_eq_true rfl) rfl (eb_sS (eb_sS (eb_sS eb_s0))) ?_
    refine V_iload_n eX5_letterAt_10 rfl rfl ?_
    refine V_if_ne (tgt := 18) eX5_letterAt_11 rfl (by omega) (fun c_11 => ?_) (fun c_11 => absurd c_11 (by omega))
    refine V_bipush eX5_letterAt_18 (by decide) ?_
    refine V_iload_n eX5_letterAt_20 rfl rfl ?_
    refine V_iadd eX5_letterAt_21 ?_
    refine V_iconst eX5_letterAt_22 ?_
    refine V_isub eX5_letterAt_23 ?_
    refine V_eqI (b := (c : Int)) (by omega) ?_
    exact V_iret eX5_letterAt_24 ⟨Nat.zero_le _, Nat.zero_le _⟩ rfl (rfl) (⟨rfl, rfl, rfl⟩)
theorem c_X5_lengthOf {n : Nat} {h : eb_H} {l : List Nat} (hl : sp_ok l) : eb_T mX5_lengthOf [.long (eb_J (sp_enc l : Int))] n h (eb_X (some (.int (eb_I (l.length : Int)))) n h) := by
  refine eb_T.of (by decide +kernel) (Nat.le_of_ble_eq_true rfl) ?_
  show eb_V _ _ 0 [.long (eb_J (sp_enc l : Int)), eb_no, eb_no] [] (n, 0, 0) h _
  have hn := hl.2
  have loop : ∀ (m i : Nat), i + m = l.length → eb_V mX5_lengthOf (fun _ _ _ => True) 2 [.long (eb_J (sp_enc l : Int)), eb_no, .int (eb_I (i : Int))] [] (n, 0, 0) h (eb_R mX5_lengthOf (eb_X (some (.int (eb_I (l.length : Int)))) n h)) := by
    intro m
    induction m with
    | zero =>
      intro i hi
      have e1 : i = l.length := by omega
      subst e1
      have e2 : sp_at l l.length = -1 := by simp [sp_at]
      refine V_iload_n eX5_lengthOf_2 rfl rfl ?_
      refine V_bipush eX5_lengthOf_3 (by decide) ?_
      refine V_icmp_ge (tgt := 23) eX5_lengthOf_5 rfl (by omega) (fun c_5 => ?_) (fun c_5 => ?_)
      · refine V_iload_n eX5_lengthOf_23 rfl rfl ?_
        exact V_iret eX5_lengthOf_24 ⟨Nat.zero_le _, Nat.zero_le _⟩ rfl (rfl) (⟨rfl, rfl, rfl⟩)
      · refine V_lload_n eX5_lengthOf_8 rfl rfl ?_
        refine V_iload_n eX5_lengthOf_9 rfl rfl ?_
        refine V_csi eX5_lengthOf_10 (c_X5_letterAt hl (by omega)) rfl rfl (Nat.le_of_ble_eq_true rfl) ⟨rfl, rfl⟩ ⟨Nat.zero_le _, Nat.zero_le _⟩ ?_
        refine V_iconst eX5_lengthOf_13 ?_
        rw [e2]
        refine V_icmp_eq (tgt := 23) eX5_lengthOf_14 rfl (by decide) (fun c_14 => ?_) (fun c_14 => absurd rfl c_14)
        refine V_iload_n eX5_lengthOf_23 rfl rfl ?_
        exact V_iret eX5_lengthOf_24 ⟨Nat.zero_le _, Nat.zero_le _⟩ rfl (rfl) (⟨rfl, rfl, rfl⟩)
    | succ m ih =>
      intro i hi
      have hlt : i < l.length := by omega
      have e2 : sp_at l i = (l[i] : Int) := by simp [sp_at, hlt]
      have e3 := hl.1 l[i] (List.getElem_mem hlt)
      refine V_iload_n eX5_lengthOf_2 rfl rfl ?_
      refine V_bipush eX5_lengthOf_3 (by decide) ?_
      refine V_icmp_ge (tgt := 23) eX5_lengthOf_5 rfl (by omega) (fun c_5 => ?_) (fun c_5 => ?_)
      · exact absurd c_5 (by omega)
      · refine V_lload_n eX5_lengthOf_8 rfl rfl ?_
        refine V_iload_n eX5_lengthOf_9 rfl rfl ?_
        refine V_csi eX5_lengthOf_10 (c_X5_letterAt hl (by omega)) rfl rfl (Nat.le_of_ble_eq_true rfl) ⟨rfl, rfl⟩ ⟨Nat.zero_le _, Nat.zero_le _⟩ ?_
        rw [e2]
        refine V_iconst eX5_lengthOf_13 ?_
        refine V_icmp_eq (tgt := 23) eX5_lengthOf_14 rfl (by omega) (fun c_14 => ?_) (fun c_14 => ?_)
        · exact absurd c_14 (by omega)
        · refine V_iinc eX5_lengthOf_17 rfl rfl (eb_sS (eb_sS eb_s0)) ?_
          refine V_goto (tgt := 2) eX5_lengthOf_20 rfl ?_
          exact ih (i + 1) (by omega)
  refine V_iconst eX5_lengthOf_0 ?_
  refine V_istore_n eX5_lengthOf_1 rfl (Nat.le_of_ble_eq_true rfl) rfl (eb_sS (eb_sS eb_s0)) ?_
  exact loop l.length 0 (by omega)
theorem sp_ww_take (l : List Nat) (i : Nat) (hi : i < l.length) : sp_ww (l.take (i + 1)) = sp_ww (l.take i) + sp_lw (l[i] : Int) := by
  unfold sp_ww
  rw [List.take_succ_eq_append_getElem hi, List.map_append, List.sum_append]
  simp only [List.map_cons, List.map_nil, List.sum_cons, List.sum_nil, Int.add_zero]
theorem sp_lw_r (c : Int) : 1 ≤ sp_lw c ∧ sp_lw c ≤ 3 := by unfold sp_lw; split <;> (try split) <;> omega
theorem sp_ww_r (l : List Nat) : (l.length : Int) ≤ sp_ww l ∧ sp_ww l ≤ 3 * l.length := by
  induction l with
  | nil => decide
  | cons c t ih =>
    have := sp_lw_r (c : Int)
    have e : sp_ww (c :: t) = sp_lw (c : Int) + sp_ww t := by simp [sp_ww]
    rw [e]
    simp only [List.length_cons]
    omega
theorem c_X5_widthOf {n : Nat} {h : eb_H} {l : List Nat} (hl : sp_ok l) : eb_T mX5_widthOf [.long (eb_J (sp_enc l : Int))] n h (eb_X (some (.int (eb_I (sp_ww l)))) n h) := by
  refine eb_T.of (by decide +kernel) (Nat.le_of_ble_eq_true rfl) ?_
  show eb_V _ _ 0 [.long (eb_J (sp_enc l : Int)), eb_no, eb_no, eb_no, eb_no] [] (n, 0, 0) h _
  have hn := hl.2
  have loop : ∀ (m i : Nat), i + m = l.length → eb_V mX5_widthOf (fun _ _ _ => True) 10 [.long (eb_J (sp_enc l : Int)), eb_no, .int (eb_I (sp_ww (l.take i))), .int (eb_I (l.length : Int)), .int (eb_I (i : Int))] [] (n, 0, 0) h (eb_R mX5_widthOf (eb_X (some (.int (eb_I (sp_ww l)))) n h)) := by
    intro m
    induction m with
    | zero =>
      intro i hi
      have e1 : i = l.length := by omega
      subst e1
      rw [List.take_length]
      refine V_iload eX5_widthOf_10 rfl ?_
      refine V_iload_n eX5_widthOf_12 rfl rfl ?_
      refine V_icmp_ge (tgt := 34) eX5_widthOf_13 rfl (by omega) (fun c_13 => ?_) (fun c_13 => ?_)
      · refine V_iload_n eX5_widthOf_34 rfl rfl ?_
        exact V_iret eX5_widthOf_35 ⟨Nat.zero_le _, Nat.zero_le _⟩ rfl (rfl) (⟨rfl, rfl, rfl⟩)
      · exact absurd (Int.le_refl _) c_13
    | succ m ih =>
      intro i hi
      have hlt : i < l.length := by omega
      have e2 : sp_at l i = (l[i] : Int) := by simp [sp_at, hlt]
      have e3 := hl.1 l[i] (List.getElem_mem hlt)
      have e4 := sp_ww_take l i hlt
      refine V_iload eX5_widthOf_10 rfl ?_
      refine V_iload_n eX5_widthOf_12 rfl rfl ?_
      refine V_icmp_ge (tgt := 34) eX5_widthOf_13 rfl (by omega) (fun c_13 => ?_) (fun c_13 => ?_)
      · exact absurd c_13 (by omega)
      · refine V_iload_n eX5_widthOf_16 rfl rfl ?_
        refine V_lload_n eX5_widthOf_17 rfl rfl ?_
        refine V_iload eX5_widthOf_18 rfl ?_
        refine V_csi eX5_widthOf_20 (c_X5_letterAt hl (by omega)) rfl rfl (Nat.le_of_ble_eq_true rfl) ⟨rfl, rfl⟩ ⟨Nat.zero_le _, Nat.zero_le _⟩ ?_
        rw [e2]
        refine V_csi eX5_widthOf_23 (c_X5_letterWidth (by omega)) rfl rfl (Nat.le_of_ble_eq_true rfl) ⟨rfl, rfl⟩ ⟨Nat.zero_le _, Nat.zero_le _⟩ ?_
        refine V_iadd eX5_widthOf_26 ?_
        rw [← e4]
        refine V_istore_n eX5_widthOf_27 rfl (Nat.le_of_ble_eq_true rfl) rfl (eb_sS (eb_sS eb_s0)) ?_
        refine V_iinc eX5_widthOf_28 rfl rfl (eb_sS (eb_sS (eb_sS (eb_sS eb_s0)))) ?_
        refine V_goto (tgt := 10) eX5_widthOf_31 rfl ?_
        exact ih (i + 1) (by omega)
  refine V_iconst eX5_widthOf_0 ?_
  refine V_istore_n eX5_widthOf_1 rfl (Nat.le_of_ble_eq_true rfl) rfl (eb_sS (eb_sS eb_s0)) ?_
  refine V_lload_n eX5_widthOf_2 rfl rfl ?_
  refine V_csi eX5_widthOf_3 (c_X5_lengthOf hl) rfl rfl (Nat.le_of_ble_eq_true rfl) ⟨rfl, rfl⟩ ⟨Nat.zero_le _, Nat.zero_le _⟩ ?_
  refine V_istore_n eX5_widthOf_6 rfl (Nat.le_of_ble_eq_true rfl) rfl (eb_sS (eb_sS (eb_sS eb_s0))) ?_
  refine V_iconst eX5_widthOf_7 ?_
  refine V_istore eX5_widthOf_8 (Nat.le_of_ble_eq_true rfl) rfl (eb_sS (eb_sS (eb_sS (eb_sS eb_s0)))) ?_
  exact loop l.length 0 (by omega)
end
section
/-! what lines cost -/
def lt_sqF (v : Nat) : Nat → Nat
  | 0 => 0
  | r + 1 => if (r + 1) * (r + 1) ≤ v then r + 1 else lt_sqF v r
def lt_rt (s : Nat) : Int := (lt_sqF (100 * s) 200 : Nat)
theorem lt_sqF_le (v r : Nat) : lt_sqF v r ≤ r ∧ lt_sqF v r * lt_sqF v r ≤ v := by
  induction r with
  | zero => simp [lt_sqF]
  | succ r ih =>
    unfold lt_sqF
    split
    · rename_i q; exact ⟨Nat.le_refl _, q⟩
    · exact ⟨by omega, ih.2⟩
theorem lt_sqF_gt (v r : Nat) (x : Nat) (h1 : x ≤ r) (h2 : x * x ≤ v) : x ≤ lt_sqF v r := by
  induction r with
  | zero => omega
  | succ r ih =>
    unfold lt_sqF
    split
    · exact h1
    · rename_i q
      rcases Nat.lt_or_ge r x with z | z
      · have : x = r + 1 := by omega
        subst this
        exact absurd h2 q
      · exact ih z
theorem lt_rt_r (s : Nat) : 0 ≤ lt_rt s ∧ lt_rt s ≤ 200 := by
  have := (lt_sqF_le (100 * s) 200).1
  unfold lt_rt
  omega
/-- the root is the only number between -/
theorem lt_rt_eq {s r : Nat} (h1 : r * r ≤ 100 * s) (h2 : 100 * s < (r + 1) * (r + 1)) (h3 : r ≤ 200) : lt_rt s = (r : Int) := by
  have a := lt_sqF_gt (100 * s) 200 r h3 h1
  have b := (lt_sqF_le (100 * s) 200).2
  unfold lt_rt
  congr 1
  rcases Nat.lt_or_ge r (lt_sqF (100 * s) 200) with q | q
  · have := Nat.mul_le_mul (show r + 1 ≤ lt_sqF (100 * s) 200 from q) (show r + 1 ≤ lt_sqF (100 * s) 200 from q)
    omega
  · omega
def lt_pl (wf : Nat → Int) : Nat → Int
  | 0 => 0
  | k + 1 => lt_pl wf k + wf k + 1
def lt_tight (law over : Int) : Int := if law = 0 then over * over else if law = 2 then 20 * over else if law = 3 then 100 + over else over
def lt_loose (law s : Int) : Int := if law = 0 then s * s else if law = 3 then s / 5 else if law = 4 then lt_rt s.toNat else s
def lt_pr (N : Nat) (law fee fr slack : Int) (j : Nat) : Int := if slack < 0 then fee + lt_tight law (-slack) else if fr = 1 ∧ j = N then fee else fee + lt_loose law slack
def lt_wok (N : Nat) (wf : Nat → Int) : Prop := ∀ k, k < N → 1 ≤ wf k ∧ wf k ≤ 90
theorem lt_pl_r {N : Nat} {wf : Nat → Int} (hw : lt_wok N wf) : ∀ k, k ≤ N → 2 * (k : Int) ≤ lt_pl wf k ∧ lt_pl wf k ≤ 91 * k := by
  intro k
  induction k with
  | zero => intro _; simp [lt_pl]
  | succ k ih =>
    intro hk
    have h1 := ih (by omega)
    have h2 := hw k (by omega)
    simp only [lt_pl]
    omega
theorem lt_pl_mono {N : Nat} {wf : Nat → Int} (hw : lt_wok N wf) {i j : Nat} (hij : i ≤ j) (hj : j ≤ N) : lt_pl wf i + 2 * ((j : Int) - i) ≤ lt_pl wf j := by
  induction j with
  | zero => have : i = 0 := by omega
            subst this; simp
  | succ j ih =>
    rcases Nat.lt_or_ge j i with q | q
    · have : i = j + 1 := by omega
      subst this; simp
    · have h1 := ih q (by omega)
      have h2 := hw j (by omega)
      simp only [lt_pl]
      omega
theorem lt_sq_r {a b : Int} (h : 0 ≤ a ∧ a ≤ b) : 0 ≤ a * a ∧ a * a ≤ b * b := ⟨Int.mul_nonneg h.1 h.1, Int.mul_le_mul h.2 h.2 h.1 (by omega)⟩
theorem lt_tight_r {law over : Int} (h : 0 < over ∧ over ≤ 3700) : 0 < lt_tight law over ∧ lt_tight law over ≤ 13690000 := by
  have h1 := lt_sq_r (a := over) (b := 3700) (by omega)
  have h2 : 0 < over * over := Int.mul_pos h.1 h.1
  unfold lt_tight
  split
  · omega
  · split
    · omega
    · split <;> omega
theorem lt_tight_mono {law a b : Int} (h : 0 < a ∧ a < b ∧ b ≤ 3700) : lt_tight law a < lt_tight law b := by
  have h1 : a * a < b * b := Int.lt_of_le_of_lt (Int.mul_le_mul_of_nonneg_left (Int.le_of_lt h.2.1) (Int.le_of_lt h.1)) (Int.mul_lt_mul_of_pos_right h.2.1 (by omega))
  unfold lt_tight
  split
  · omega
  · split
    · omega
    · split <;> omega
theorem lt_loose_r {law s : Int} (h : 0 ≤ s ∧ s ≤ 200) : 0 ≤ lt_loose law s ∧ lt_loose law s ≤ 40000 := by
  have h1 := lt_sq_r (a := s) (b := 200) (by omega)
  have h2 := lt_rt_r s.toNat
  unfold lt_loose
  split
  · omega
  · split
    · omega
    · split <;> omega
theorem lt_pr_r {N : Nat} {law fee fr slack : Int} {j : Nat} (hf : 0 ≤ fee ∧ fee ≤ 99) (hs : -3700 ≤ slack ∧ slack ≤ 200) : 0 ≤ lt_pr N law fee fr slack j ∧ lt_pr N law fee fr slack j ≤ 13690099 := by
  unfold lt_pr
  split
  · have := lt_tight_r (law := law) (over := -slack) (by omega)
    omega
  · split
    · omega
    · have := lt_loose_r (law := law) (s := slack) (by omega)
      omega
end
section
/-! Layout: the cells of one -/
abbrev ly_obj (b rt : Nat) (N : Nat) (me law fee fr lines : Int) (bg : Nat) : va_E := .inr (3, [.ref rt, .ref (b + 1), .ref (b + 2), .ref (b + 3), .ref (b + 4), .ref (b + 5), .int (eb_I (N : Int)), .int (eb_I me), .int (eb_I law), .int (eb_I fee), .int (eb_I fr), .int (eb_I lines), .long (eb_J (bg : Int))])
def ly_at (h : eb_H) (b rt N : Nat) (me law fee fr lines : Int) (bg : Nat) (pl to ow lb ro : Nat → Int) : Prop := h b = ly_obj b rt N me law fee fr lines bg ∧ h (b + 1) = eb_ia 41 pl ∧ h (b + 2) = eb_ia 41 to ∧ h (b + 3) = eb_ia 41 ow ∧ h (b + 4) = eb_ia 41 lb ∧ h (b + 5) = eb_ia 41 ro ∧ h rt = eb_ia 200 lt_rt
def ly_ok (N : Nat) (me law fee fr : Int) : Prop := N ≤ 40 ∧ (1 ≤ me ∧ me ≤ 200) ∧ (0 ≤ law ∧ law ≤ 4) ∧ (0 ≤ fee ∧ fee ≤ 99) ∧ (fr = 0 ∨ fr = 1)
section LY
variable {n : Nat} {h : eb_H} {b rt N bg : Nat} {me law fee fr lines : Int} {pl to ow lb ro : Nat → Int}
theorem c_X3_widthOf {i j : Nat} (HL : ly_at h b rt N me law fee fr lines bg pl to ow lb ro) (hi : i ≤ 40) (hj : j ≤ 40) : eb_T mX3_widthOf [.ref b, .int (eb_I (i : Int)), .int (eb_I (j : Int))] n h (eb_X (some (.int (eb_I (pl j - pl i - 1)))) n h) := by
  refine eb_T.of (by decide +kernel) (Nat.le_of_ble_eq_true rfl) ?_
  show eb_V _ _ 0 [.ref b, .int (eb_I (i : Int)), .int (eb_I (j : Int))] [] (n, 0, 0) h _
  obtain ⟨H_this, H_this_place, H_this_total, H_this_owner, H_this_lineBegin, H_this_row, H_this_roots⟩ := HL
  refine V_aload_n eX3_widthOf_0 rfl rfl ?_
  refine V_getf eX3_widthOf_1 H_this rfl ?_
  refine V_iload_n eX3_widthOf_4 rfl rfl ?_
  refine V_iald eX3_widthOf_5 H_this_place (by omega) ?_
  refine V_aload_n eX3_widthOf_6 rfl rfl ?_
  refine V_getf eX3_widthOf_7 H_this rfl ?_
  refine V_iload_n eX3_widthOf_10 rfl rfl ?_
  refine V_iald eX3_widthOf_11 H_this_place (by omega) ?_
  refine V_isub eX3_widthOf_12 ?_
  refine V_iconst eX3_widthOf_13 ?_
  refine V_isub eX3_widthOf_14 ?_
  exact V_iret eX3_widthOf_15 ⟨Nat.zero_le _, Nat.zero_le _⟩ rfl (rfl) (⟨rfl, rfl, rfl⟩)
theorem c_X3_tightPrice {over : Int} (HL : ly_at h b rt N me law fee fr lines bg pl to ow lb ro) (HO : ly_ok N me law fee fr) : eb_T mX3_tightPrice [.ref b, .int (eb_I over)] n h (eb_X (some (.int (eb_I (lt_tight law over)))) n h) := by
  refine eb_T.of (by decide +kernel) (Nat.le_of_ble_eq_true rfl) ?_
  show eb_V _ _ 0 [.ref b, .int (eb_I over)] [] (n, 0, 0) h _
  obtain ⟨H_this, H_this_place, H_this_total, H_this_owner, H_this_lineBegin, H_this_row, H_this_roots⟩ := HL
  obtain ⟨hN, hme, hlaw, hfee, hfr⟩ := HO
  obtain rfl | rfl | rfl | rfl | rfl : law = 0 ∨ law = 1 ∨ law = 2 ∨ law = 3 ∨ law = 4 := by omega
  · refine V_aload_n eX3_tightPrice_0 rfl rfl ?_
    refine V_getf eX3_tightPrice_1 H_this rfl ?_
    refine V_tswIn (tgt := 36) (off := 32) eX3_tightPrice_4 (by omega) (by omega) rfl rfl ?_
    refine V_iload_n eX3_tightPrice_36 rfl rfl ?_
    refine V_iload_n eX3_tightPrice_37 rfl rfl ?_
    refine V_imul eX3_tightPrice_38 ?_
    exact V_iret eX3_tightPrice_39 ⟨Nat.zero_le _, Nat.zero_le _⟩ rfl (rfl) (⟨rfl, rfl, rfl⟩)
  · refine V_aload_n eX3_tightPrice_0 rfl rfl ?_
    refine V_getf eX3_tightPrice_1 H_this rfl ?_
    refine V_tswIn (tgt := 50) (off := 46) eX3_tightPrice_4 (by omega) (by omega) rfl rfl ?_
    refine V_iload_n eX3_tightPrice_50 rfl rfl ?_
    exact V_iret eX3_tightPrice_51 ⟨Nat.zero_le _, Nat.zero_le _⟩ rfl (rfl) (⟨rfl, rfl, rfl⟩)
  · refine V_aload_n eX3_tightPrice_0 rfl rfl ?_
    refine V_getf eX3_tightPrice_1 H_this rfl ?_
    refine V_tswIn (tgt := 40) (off := 36) eX3_tightPrice_4 (by omega) (by omega) rfl rfl ?_
    refine V_bipush eX3_tightPrice_40 (by decide) ?_
    refine V_iload_n eX3_tightPrice_42 rfl rfl ?_
    refine V_imul eX3_tightPrice_43 ?_
    exact V_iret eX3_tightPrice_44 ⟨Nat.zero_le _, Nat.zero_le _⟩ rfl (rfl) (⟨rfl, rfl, rfl⟩)
  · refine V_aload_n eX3_tightPrice_0 rfl rfl ?_
    refine V_getf eX3_tightPrice_1 H_this rfl ?_
    refine V_tswIn (tgt := 45) (off := 41) eX3_tightPrice_4 (by omega) (by omega) rfl rfl ?_
    refine V_bipush eX3_tightPrice_45 (by decide) ?_
    refine V_iload_n eX3_tightPrice_47 rfl rfl ?_
    refine V_iadd eX3_tightPrice_48 ?_
    exact V_iret eX3_tightPrice_49 ⟨Nat.zero_le _, Nat.zero_le _⟩ rfl (rfl) (⟨rfl, rfl, rfl⟩)
  · refine V_aload_n eX3_tightPrice_0 rfl rfl ?_
    refine V_getf eX3_tightPrice_1 H_this rfl ?_
    refine V_tswOut (tgt := 50) eX3_tightPrice_4 (by omega) (by omega) rfl ?_
    refine V_iload_n eX3_tightPrice_50 rfl rfl ?_
    exact V_iret eX3_tightPrice_51 ⟨Nat.zero_le _, Nat.zero_le _⟩ rfl (rfl) (⟨rfl, rfl, rfl⟩)
theorem c_X3_loosePrice {s : Int} (HL : ly_at h b rt N me law fee fr lines bg pl to ow lb ro) (HO : ly_ok N me law fee fr) (hs : 0 ≤ s ∧ s < 200) : eb_T mX3_loosePrice [.ref b, .int (eb_I s)] n h (eb_X (some (.int (eb_I (lt_loose law s)))) n h) := by
  refine eb_T.of (by decide +kernel) (Nat.le_of_ble_eq_true rfl) ?_
  show eb_V _ _ 0 [.ref b, .int (eb_I s)] [] (n, 0, 0) h _
  obtain ⟨H_this, H_this_place, H_this_total, H_this_owner, H_this_lineBegin, H_this_row, H_this_roots⟩ := HL
  obtain ⟨hN, hme, hlaw, hfee, hfr⟩ := HO
  obtain rfl | rfl | rfl | rfl | rfl : law = 0 ∨ law = 1 ∨ law = 2 ∨ law = 3 ∨ law = 4 := by omega
  · refine V_aload_n eX3_loosePrice_0 rfl rfl ?_
    refine V_getf eX3_loosePrice_1 H_this rfl ?_
    refine V_tswIn (tgt := 40) (off := 36) eX3_loosePrice_4 (by omega) (by omega) rfl rfl ?_
    refine V_iload_n eX3_loosePrice_40 rfl rfl ?_
    refine V_iload_n eX3_loosePrice_41 rfl rfl ?_
    refine V_imul eX3_loosePrice_42 ?_
    exact V_iret eX3_loosePrice_43 ⟨Nat.zero_le _, Nat.zero_le _⟩ rfl (rfl) (⟨rfl, rfl, rfl⟩)
  · refine V_aload_n eX3_loosePrice_0 rfl rfl ?_
    refine V_getf eX3_loosePrice_1 H_this rfl ?_
    refine V_tswIn (tgt := 66) (off := 62) eX3_loosePrice_4 (by omega) (by omega) rfl rfl ?_
    refine V_iload_n eX3_loosePrice_66 rfl rfl ?_
    exact V_iret eX3_loosePrice_67 ⟨Nat.zero_le _, Nat.zero_le _⟩ rfl (rfl) (⟨rfl, rfl, rfl⟩)
  · refine V_aload_n eX3_loosePrice_0 rfl rfl ?_
    refine V_getf eX3_loosePrice_1 H_this rfl ?_
    refine V_tswIn (tgt := 66) (off := 62) eX3_loosePrice_4 (by omega) (by omega) rfl rfl ?_
    refine V_iload_n eX3_loosePrice_66 rfl rfl ?_
    exact V_iret eX3_loosePrice_67 ⟨Nat.zero_le _, Nat.zero_le _⟩ rfl (rfl) (⟨rfl, rfl, rfl⟩)
  · refine V_aload_n eX3_loosePrice_0 rfl rfl ?_
    refine V_getf eX3_loosePrice_1 H_this rfl ?_
    refine V_tswIn (tgt := 44) (off := 40) eX3_loosePrice_4 (by omega) (by omega) rfl rfl ?_
    refine V_iload_n eX3_loosePrice_44 rfl rfl ?_
    refine V_iconst eX3_loosePrice_45 ?_
    refine V_idivI eX3_loosePrice_46 (by omega) (by omega) ?_
    exact V_iret eX3_loosePrice_47 ⟨Nat.zero_le _, Nat.zero_le _⟩ rfl (rfl) (⟨rfl, rfl, rfl⟩)
  · refine V_aload_n eX3_loosePrice_0 rfl rfl ?_
    refine V_getf eX3_loosePrice_1 H_this rfl ?_
    refine V_tswIn (tgt := 48) (off := 44) eX3_loosePrice_4 (by omega) (by omega) rfl rfl ?_
    refine V_iload_n eX3_loosePrice_48 rfl rfl ?_
    refine V_sipush eX3_loosePrice_49 (by decide) ?_
    refine V_icmp_ge (tgt := 64) eX3_loosePrice_52 rfl (by omega) (fun c_52 => ?_) (fun c_52 => ?_)
    · exact absurd c_52 (by omega)
    · refine V_aload_n eX3_loosePrice_55 rfl rfl ?_
      refine V_getf eX3_loosePrice_56 H_this rfl ?_
      refine V_iload_n eX3_loosePrice_59 rfl rfl ?_
      refine V_iald eX3_loosePrice_60 H_this_roots (by omega) ?_
      refine V_goto (tgt := 65) eX3_loosePrice_61 rfl ?_
      exact V_iret eX3_loosePrice_65 ⟨Nat.zero_le _, Nat.zero_le _⟩ rfl (rfl) (⟨rfl, rfl, rfl⟩)
theorem c_X3_priceOf {s : Int} {j : Nat} (HL : ly_at h b rt N me law fee fr lines bg pl to ow lb ro) (HO : ly_ok N me law fee fr) (hs : -3700 ≤ s ∧ s < 200) (hj : j ≤ 40) : eb_T mX3_priceOf [.ref b, .int (eb_I s), .int (eb_I (j : Int))] n h (eb_X (some (.int (eb_I (lt_pr N law fee fr s j)))) n h) := by
  refine eb_T.of (by decide +kernel) (Nat.le_of_ble_eq_true rfl) ?_
  show eb_V _ _ 0 [.ref b, .int (eb_I s), .int (eb_I (j : Int))] [] (n, 0, 0) h _
  have HL' := HL
  have HO' := HO
  obtain ⟨H_this, H_this_place, H_this_total, H_this_owner, H_this_lineBegin, H_this_row, H_this_roots⟩ := HL
  obtain ⟨hN, hme, hlaw, hfee, hfr⟩ := HO
  refine V_iload_n eX3_priceOf_0 rfl rfl ?_
  refine V_if_ge (tgt := 16) eX3_priceOf_1 rfl (by omega) (fun c_1 => ?_) (fun c_1 => ?_)
  · refine V_aload_n eX3_priceOf_16 rfl rfl ?_
    refine V_getf eX3_priceOf_17 H_this rfl ?_
    refine V_if_eq (tgt := 38) eX3_priceOf_20 rfl (by omega) (fun c_20 => ?_) (fun c_20 => ?_)
    · refine V_aload_n eX3_priceOf_38 rfl rfl ?_
      refine V_getf eX3_priceOf_39 H_this rfl ?_
      refine V_aload_n eX3_priceOf_42 rfl rfl ?_
      refine V_iload_n eX3_priceOf_43 rfl rfl ?_
      refine V_cvi eX3_priceOf_44 (c_X3_loosePrice HL' HO' (by omega)) H_this rfl rfl (Nat.le_of_ble_eq_true rfl) ⟨rfl, rfl⟩ ⟨Nat.zero_le _, Nat.zero_le _⟩ ?_
      refine V_iadd eX3_priceOf_47 ?_
      rw [show fee + lt_loose law s = lt_pr N law fee fr s j by unfold lt_pr; rw [if_neg (by omega), if_neg (by omega)]]
      exact V_iret eX3_priceOf_48 ⟨Nat.zero_le _, Nat.zero_le _⟩ rfl (rfl) (⟨rfl, rfl, rfl⟩)
    · refine V_iload_n eX3_priceOf_23 rfl rfl ?_
      refine V_aload_n eX3_priceOf_24 rfl rfl ?_
      refine V_getf eX3_priceOf_25 H_this rfl ?_
      refine V_icmp_ne (tgt := 38) eX3_priceOf_28 rfl (by omega) (fun c_28 => ?_) (fun c_28 => ?_)
      · refine V_aload_n eX3_priceOf_38 rfl rfl ?_
        refine V_getf eX3_priceOf_39 H_this rfl ?_
        refine V_aload_n eX3_priceOf_42 rfl rfl ?_
        refine V_iload_n eX3_priceOf_43 rfl rfl ?_
        refine V_cvi eX3_priceOf_44 (c_X3_loosePrice HL' HO' (by omega)) H_this rfl rfl (Nat.le_of_ble_eq_true rfl) ⟨rfl, rfl⟩ ⟨Nat.zero_le _, Nat.zero_le _⟩ ?_
        refine V_iadd eX3_priceOf_47 ?_
        rw [show fee + lt_loose law s = lt_pr N law fee fr s j by unfold lt_pr; rw [if_neg (by omega), if_neg (by omega)]]
        exact V_iret eX3_priceOf_48 ⟨Nat.zero_le _, Nat.zero_le _⟩ rfl (rfl) (⟨rfl, rfl, rfl⟩)
      · refine V_aload_n eX3_priceOf_31 rfl rfl ?_
        refine V_getf eX3_priceOf_32 H_this rfl ?_
        refine V_eqI (b := lt_pr N law fee fr s j) (by unfold lt_pr; rw [if_neg (by omega), if_pos (by omega)]) ?_
        refine V_goto (tgt := 48) eX3_priceOf_35 rfl ?_
        exact V_iret eX3_priceOf_48 ⟨Nat.zero_le _, Nat.zero_le _⟩ rfl (rfl) (⟨rfl, rfl, rfl⟩)
  · refine V_aload_n eX3_priceOf_4 rfl rfl ?_
    refine V_getf eX3_priceOf_5 H_this rfl ?_
    refine V_aload_n eX3_priceOf_8 rfl rfl ?_
    refine V_iload_n eX3_priceOf_9 rfl rfl ?_
    refine V_ineg eX3_priceOf_10 ?_
    refine V_cvi eX3_priceOf_11 (c_X3_tightPrice HL' HO') H_this rfl rfl (Nat.le_of_ble_eq_true rfl) ⟨rfl, rfl⟩ ⟨Nat.zero_le _, Nat.zero_le _⟩ ?_
    refine V_iadd eX3_priceOf_14 ?_
    rw [show fee + lt_tight law (-s) = lt_pr N law fee fr s j by unfold lt_pr; rw [if_pos (by omega)]]
    exact V_iret eX3_priceOf_15 ⟨Nat.zero_le _, Nat.zero_le _⟩ rfl (rfl) (⟨rfl, rfl, rfl⟩)
theorem c_X3_price {i j : Nat} (HL : ly_at h b rt N me law fee fr lines bg pl to ow lb ro) (HO : ly_ok N me law fee fr) (hi : i ≤ 40) (hj : j ≤ 40) (hs : -3700 ≤ me - (pl j - pl i - 1) ∧ me - (pl j - pl i - 1) < 200) : eb_T mX3_price [.ref b, .int (eb_I (i : Int)), .int (eb_I (j : Int))] n h (eb_X (some (.int (eb_I (lt_pr N law fee fr (me - (pl j - pl i - 1)) j)))) n h) := by
  refine eb_T.of (by decide +kernel) (Nat.le_of_ble_eq_true rfl) ?_
  show eb_V _ _ 0 [.ref b, .int (eb_I (i : Int)), .int (eb_I (j : Int))] [] (n, 0, 0) h _
  have HL' := HL
  obtain ⟨H_this, H_this_place, H_this_total, H_this_owner, H_this_lineBegin, H_this_row, H_this_roots⟩ := HL
  refine V_aload_n eX3_price_0 rfl rfl ?_
  refine V_aload_n eX3_price_1 rfl rfl ?_
  refine V_getf eX3_price_2 H_this rfl ?_
  refine V_aload_n eX3_price_5 rfl rfl ?_
  refine V_iload_n eX3_price_6 rfl rfl ?_
  refine V_iload_n eX3_price_7 rfl rfl ?_
  refine V_cvi eX3_price_8 (c_X3_widthOf HL' hi hj) H_this rfl rfl (Nat.le_of_ble_eq_true rfl) ⟨rfl, rfl⟩ ⟨Nat.zero_le _, Nat.zero_le _⟩ ?_
  refine V_isub eX3_price_11 ?_
  refine V_iload_n eX3_price_12 rfl rfl ?_
  refine V_cvi eX3_price_13 (c_X3_priceOf HL' HO hs hj) H_this rfl rfl (Nat.le_of_ble_eq_true rfl) ⟨rfl, rfl⟩ ⟨Nat.zero_le _, Nat.zero_le _⟩ ?_
  exact V_iret eX3_price_16 ⟨Nat.zero_le _, Nat.zero_le _⟩ rfl (rfl) (⟨rfl, rfl, rfl⟩)
theorem c_X3_lastTotal (HL : ly_at h b rt N me law fee fr lines bg pl to ow lb ro) (hN : N ≤ 40) : eb_T mX3_lastTotal [.ref b] n h (eb_X (some (.int (eb_I (to N)))) n h) := by
  refine eb_T.of (by decide +kernel) (Nat.le_of_ble_eq_true rfl) ?_
  show eb_V _ _ 0 [.ref b] [] (n, 0, 0) h _
  obtain ⟨H_this, H_this_place, H_this_total, H_this_owner, H_this_lineBegin, H_this_row, H_this_roots⟩ := HL
  refine V_aload_n eX3_lastTotal_0 rfl rfl ?_
  refine V_getf eX3_lastTotal_1 H_this rfl ?_
  refine V_aload_n eX3_lastTotal_4 rfl rfl ?_
  refine V_getf eX3_lastTotal_5 H_this rfl ?_
  refine V_iald eX3_lastTotal_8 H_this_total (by omega) ?_
  exact V_iret eX3_lastTotal_9 ⟨Nat.zero_le _, Nat.zero_le _⟩ rfl (rfl) (⟨rfl, rfl, rfl⟩)
theorem c_X3_beginOf {k : Int} {L : Nat} (HL : ly_at h b rt N me law fee fr (L : Int) bg pl to ow lb ro) (hL : L ≤ 40) (hk : -2147483648 ≤ k ∧ k ≤ 2147483647) : eb_T mX3_beginOf [.ref b, .int (eb_I k)] n h (eb_X (some (.int (eb_I (if 0 ≤ k ∧ k < L then lb k.toNat else -1)))) n h) := by
  refine eb_T.of (by decide +kernel) (Nat.le_of_ble_eq_true rfl) ?_
  show eb_V _ _ 0 [.ref b, .int (eb_I k)] [] (n, 0, 0) h _
  obtain ⟨H_this, H_this_place, H_this_total, H_this_owner, H_this_lineBegin, H_this_row, H_this_roots⟩ := HL
  by_cases hc : 0 ≤ k ∧ k < L
  · rw [if_pos hc]
    refine V_iload_n eX3_beginOf_0 rfl rfl ?_
    refine V_if_lt (tgt := 21) eX3_beginOf_1 rfl (by omega) (fun c_1 => ?_) (fun c_1 => ?_)
    · exact absurd c_1 (by omega)
    · refine V_iload_n eX3_beginOf_4 rfl rfl ?_
      refine V_aload_n eX3_beginOf_5 rfl rfl ?_
      refine V_getf eX3_beginOf_6 H_this rfl ?_
      refine V_icmp_ge (tgt := 21) eX3_beginOf_9 rfl (by omega) (fun c_9 => ?_) (fun c_9 => ?_)
      · exact absurd c_9 (by omega)
      · refine V_aload_n eX3_beginOf_12 rfl rfl ?_
        refine V_getf eX3_beginOf_13 H_this rfl ?_
        refine V_iload_n eX3_beginOf_16 rfl rfl ?_
        refine V_iald eX3_beginOf_17 H_this_lineBegin (by omega) ?_
        refine V_goto (tgt := 22) eX3_beginOf_18 rfl ?_
        exact V_iret eX3_beginOf_22 ⟨Nat.zero_le _, Nat.zero_le _⟩ rfl (rfl) (⟨rfl, rfl, rfl⟩)
  · rw [if_neg hc]
    refine V_iload_n eX3_beginOf_0 rfl rfl ?_
    refine V_if_lt (tgt := 21) eX3_beginOf_1 rfl (by omega) (fun c_1 => ?_) (fun c_1 => ?_)
    · refine V_iconst eX3_beginOf_21 ?_
      exact V_iret eX3_beginOf_22 ⟨Nat.zero_le _, Nat.zero_le _⟩ rfl (rfl) (⟨rfl, rfl, rfl⟩)
    · refine V_iload_n eX3_beginOf_4 rfl rfl ?_
      refine V_aload_n eX3_beginOf_5 rfl rfl ?_
      refine V_getf eX3_beginOf_6 H_this rfl ?_
      refine V_icmp_ge (tgt := 21) eX3_beginOf_9 rfl (by omega) (fun c_9 => ?_) (fun c_9 => ?_)
      · refine V_iconst eX3_beginOf_21 ?_
        exact V_iret eX3_beginOf_22 ⟨Nat.zero_le _, Nat.zero_le _⟩ rfl (rfl) (⟨rfl, rfl, rfl⟩)
      · exact absurd c_9 (by omega)
theorem c_X3_endOf {k L : Nat} (HL : ly_at h b rt N me law fee fr (L : Int) bg pl to ow lb ro) (hL : L ≤ 40) (hN : N ≤ 40) (hk : k ≤ 40) : eb_T mX3_endOf [.ref b, .int (eb_I (k : Int))] n h (eb_X (some (.int (eb_I (if k + 1 < L then lb (k + 1) else (N : Int))))) n h) := by
  refine eb_T.of (by decide +kernel) (Nat.le_of_ble_eq_true rfl) ?_
  show eb_V _ _ 0 [.ref b, .int (eb_I (k : Int))] [] (n, 0, 0) h _
  obtain ⟨H_this, H_this_place, H_this_total, H_this_owner, H_this_lineBegin, H_this_row, H_this_roots⟩ := HL
  by_cases hc : k + 1 < L
  · rw [if_pos hc]
    refine V_iload_n eX3_endOf_0 rfl rfl ?_
    refine V_iconst eX3_endOf_1 ?_
    refine V_iadd eX3_endOf_2 ?_
    refine V_aload_n eX3_endOf_3 rfl rfl ?_
    refine V_getf eX3_endOf_4 H_this rfl ?_
    refine V_icmp_ge (tgt := 21) eX3_endOf_7 rfl (by omega) (fun c_7 => ?_) (fun c_7 => ?_)
    · exact absurd c_7 (by omega)
    · refine V_aload_n eX3_endOf_10 rfl rfl ?_
      refine V_getf eX3_endOf_11 H_this rfl ?_
      refine V_iload_n eX3_endOf_14 rfl rfl ?_
      refine V_iconst eX3_endOf_15 ?_
      refine V_iadd eX3_endOf_16 ?_
      refine V_iald eX3_endOf_17 H_this_lineBegin (by omega) ?_
      refine V_goto (tgt := 25) eX3_endOf_18 rfl ?_
      exact V_iret eX3_endOf_25 ⟨Nat.zero_le _, Nat.zero_le _⟩ rfl (rfl) (⟨rfl, rfl, rfl⟩)
  · rw [if_neg hc]
    refine V_iload_n eX3_endOf_0 rfl rfl ?_
    refine V_iconst eX3_endOf_1 ?_
    refine V_iadd eX3_endOf_2 ?_
    refine V_aload_n eX3_endOf_3 rfl rfl ?_
    refine V_getf eX3_endOf_4 H_this rfl ?_
    refine V_icmp_ge (tgt := 21) eX3_endOf_7 rfl (by omega) (fun c_7 => ?_) (fun c_7 => ?_)
    · refine V_aload_n eX3_endOf_21 rfl rfl ?_
      refine V_getf eX3_endOf_22 H_this rfl ?_
      exact V_iret eX3_endOf_25 ⟨Nat.zero_le _, Nat.zero_le _⟩ rfl (rfl) (⟨rfl, rfl, rfl⟩)
    · exact absurd c_7 (by omega)
theorem c_X3_isBegin {e : Nat} (HL : ly_at h b rt N me law fee fr lines bg pl to ow lb ro) (hb : bg < 2 ^ 60) (he : e ≤ 41) : eb_T mX3_isBegin [.ref b, .int (eb_I (e : Int))] n h (eb_X (some (.int (eb_I ((bg / 2 ^ e % 2 : Nat) : Int)))) n h) := by
  refine eb_T.of (by decide +kernel) (Nat.le_of_ble_eq_true rfl) ?_
  show eb_V _ _ 0 [.ref b, .int (eb_I (e : Int))] [] (n, 0, 0) h _
  obtain ⟨H_this, H_this_place, H_this_total, H_this_owner, H_this_lineBegin, H_this_row, H_this_roots⟩ := HL
  have hd : bg / 2 ^ e ≤ bg := Nat.div_le_self _ _
  have hm : bg / 2 ^ e % 2 < 2 := Nat.mod_lt _ (by decide)
  generalize hx : bg / 2 ^ e = x at hd hm ⊢
  by_cases hc : x % 2 = 1
  · rw [hc]
    refine V_aload_n eX3_isBegin_0 rfl rfl ?_
    refine V_getf eX3_isBegin_1 H_this rfl ?_
    refine V_iload_n eX3_isBegin_4 rfl rfl ?_
    refine V_lshr eX3_isBegin_5 (eb_shr (by omega) (by omega)) ?_
    rw [hx]
    refine V_lconst (b := 1) eX3_isBegin_6 (by decide) ?_
    refine V_land eX3_isBegin_7 (eb_and1 (by omega)) ?_
    rw [hc]
    refine V_lconst (b := 1) eX3_isBegin_8 (by decide) ?_
    refine V_lcmpI eX3_isBegin_9 (by decide) ?_
    refine V_if_ne (tgt := 17) eX3_isBegin_10 rfl (by decide) (fun c_10 => absurd rfl c_10) (fun c_10 => ?_)
    refine V_iconst eX3_isBegin_13 ?_
    refine V_goto (tgt := 18) eX3_isBegin_14 rfl ?_
    exact V_iret eX3_isBegin_18 ⟨Nat.zero_le _, Nat.zero_le _⟩ rfl (rfl) (⟨rfl, rfl, rfl⟩)
  · rw [show x % 2 = 0 by omega]
    refine V_aload_n eX3_isBegin_0 rfl rfl ?_
    refine V_getf eX3_isBegin_1 H_this rfl ?_
    refine V_iload_n eX3_isBegin_4 rfl rfl ?_
    refine V_lshr eX3_isBegin_5 (eb_shr (by omega) (by omega)) ?_
    rw [hx]
    refine V_lconst (b := 1) eX3_isBegin_6 (by decide) ?_
    refine V_land eX3_isBegin_7 (eb_and1 (by omega)) ?_
    rw [show x % 2 = 0 by omega]
    refine V_lconst (b := 1) eX3_isBegin_8 (by decide) ?_
    refine V_lcmpI eX3_isBegin_9 (by decide) ?_
    refine V_if_ne (tgt := 17) eX3_isBegin_10 rfl (by decide) (fun c_10 => ?_) (fun c_10 => absurd c_10 (by decide))
    refine V_iconst eX3_isBegin_17 ?_
    exact V_iret eX3_isBegin_18 ⟨Nat.zero_le _, Nat.zero_le _⟩ rfl (rfl) (⟨rfl, rfl, rfl⟩)
end LY
end
section
/-! least sums, and where they begin -/
def dp_m (f : Nat → Int) : Nat → Int
  | 0 => 2000000000
  | n + 1 => if f n < dp_m f n then f n else dp_m f n
def dp_a (f : Nat → Int) : Nat → Int
  | 0 => -1
  | n + 1 => if f n < dp_m f n then (n : Int) else dp_a f n
theorem dp_m_congr {f g : Nat → Int} {n : Nat} (h : ∀ i, i < n → f i = g i) : dp_m f n = dp_m g n := by
  induction n with
  | zero => rfl
  | succ n ih =>
    simp only [dp_m]
    rw [ih (fun i hi => h i (by omega)), h n (by omega)]
theorem dp_a_congr {f g : Nat → Int} {n : Nat} (h : ∀ i, i < n → f i = g i) : dp_a f n = dp_a g n := by
  induction n with
  | zero => rfl
  | succ n ih =>
    simp only [dp_a]
    rw [ih (fun i hi => h i (by omega)), h n (by omega), dp_m_congr (fun i hi => h i (by omega))]
/-- what the scan finds: the least, and the first place where it stands -/
def dp_is (f : Nat → Int) (n a : Nat) : Prop := a < n ∧ ∀ i, i < n → f a ≤ f i ∧ (i < a → f a < f i)
theorem dp_is_un {f : Nat → Int} {n a b : Nat} (ha : dp_is f n a) (hb : dp_is f n b) : a = b := by
  obtain ⟨h1, h2⟩ := ha
  obtain ⟨h3, h4⟩ := hb
  have p := h2 b h3
  have q := h4 a h1
  rcases Nat.lt_trichotomy a b with z | z | z
  · have := q.2 z
    omega
  · exact z
  · have := p.2 z
    omega
theorem dp_has {f : Nat → Int} {n : Nat} (hn : 0 < n) (h : ∀ i, i < n → f i < 2000000000) : ∃ a : Nat, dp_is f n a ∧ dp_m f n = f a ∧ dp_a f n = (a : Int) := by
  induction n with
  | zero => omega
  | succ n ih =>
    rcases Nat.eq_zero_or_pos n with rfl | hp
    · refine ⟨0, ⟨by omega, fun i hi => ?_⟩, ?_, ?_⟩
      · have : i = 0 := by omega
        subst this
        exact ⟨Int.le_refl _, fun q => absurd q (by omega)⟩
      · exact if_pos (h 0 (by omega))
      · exact if_pos (h 0 (by omega))
    · obtain ⟨a, ⟨h1, h2⟩, h3, h4⟩ := ih hp (fun i hi => h i (by omega))
      by_cases c : f n < dp_m f n
      · refine ⟨n, ⟨by omega, fun i hi => ?_⟩, by simp only [dp_m]; rw [if_pos c], by simp only [dp_a]; rw [if_pos c]⟩
        rcases Nat.lt_or_ge i n with q | q
        · have := (h2 i q).1
          rw [h3] at c
          exact ⟨by omega, fun _ => by omega⟩
        · have : i = n := by omega
          subst this
          exact ⟨Int.le_refl _, fun q => absurd q (by omega)⟩
      · refine ⟨a, ⟨by omega, fun i hi => ?_⟩, by simp only [dp_m]; rw [if_neg c]; exact h3, by simp only [dp_a]; rw [if_neg c]; exact h4⟩
        rcases Nat.lt_or_ge i n with q | q
        · exact h2 i q
        · have : i = n := by omega
          subst this
          rw [h3] at c
          exact ⟨by omega, fun q => absurd q (by omega)⟩
theorem dp_eq {f : Nat → Int} {n a : Nat} (h : ∀ i, i < n → f i < 2000000000) (ha : dp_is f n a) : dp_m f n = f a ∧ dp_a f n = (a : Int) := by
  obtain ⟨b, h1, h2, h3⟩ := dp_has (by have := ha.1; omega) h
  have := dp_is_un ha h1
  subst this
  exact ⟨h2, h3⟩
def dp_tab (c : Nat → Nat → Int) : Nat → Nat → Int
  | 0 => fun _ => 0
  | e + 1 => fun k => if k = e + 1 then dp_m (fun i => dp_tab c e i + c i (e + 1)) (e + 1) else dp_tab c e k
def dp_t (c : Nat → Nat → Int) (e : Nat) : Int := dp_tab c e e
def dp_f (c : Nat → Nat → Int) (e : Nat) : Nat → Int := fun i => dp_t c i + c i e
def dp_o (c : Nat → Nat → Int) (e : Nat) : Int := dp_a (dp_f c e) e
theorem dp_tab_eq (c : Nat → Nat → Int) : ∀ (e k : Nat), k ≤ e → dp_tab c e k = dp_t c k := by
  intro e
  induction e with
  | zero => intro k hk; have : k = 0 := by omega
            subst this; rfl
  | succ e ih =>
    intro k hk
    rcases Nat.lt_or_ge e k with q | q
    · have : k = e + 1 := by omega
      subst this; rfl
    · simp only [dp_tab]
      rw [if_neg (by omega)]
      exact ih k q
theorem dp_t_0 (c : Nat → Nat → Int) : dp_t c 0 = 0 := rfl
theorem dp_t_s (c : Nat → Nat → Int) {e : Nat} (he : 0 < e) : dp_t c e = dp_m (dp_f c e) e := by
  obtain ⟨e, rfl⟩ : ∃ x, e = x + 1 := ⟨e - 1, by omega⟩
  show (if e + 1 = e + 1 then dp_m (fun i => dp_tab c e i + c i (e + 1)) (e + 1) else dp_tab c e (e + 1)) = _
  rw [if_pos rfl]
  exact dp_m_congr (fun i hi => by rw [dp_tab_eq c e i (by omega)]; rfl)
/-- costs that are nothing strange: totals lie between 0 and the one line's cost -/
def dp_cok (c : Nat → Nat → Int) (N : Nat) : Prop := ∀ i j, i < j → j ≤ N → 0 ≤ c i j ∧ c i j ≤ 13690099
theorem dp_t_r {c : Nat → Nat → Int} {N : Nat} (hc : dp_cok c N) : ∀ e, e ≤ N → 0 ≤ dp_t c e ∧ dp_t c e ≤ 13690099 := by
  intro e
  induction e using Nat.strongRecOn with
  | _ e ih =>
    intro he
    rcases Nat.eq_zero_or_pos e with rfl | hp
    · rw [dp_t_0]; omega
    · have hf : ∀ i, i < e → dp_f c e i < 2000000000 := fun i hi => by
        have h1 := ih i hi (by omega)
        have h2 := hc i e hi he
        unfold dp_f
        omega
      obtain ⟨a, ⟨h1, h2⟩, h3, -⟩ := dp_has hp hf
      rw [dp_t_s c hp, h3]
      have h4 := h2 0 hp
      have h5 : dp_f c e 0 = c 0 e := by unfold dp_f; rw [dp_t_0]; omega
      have h6 := hc 0 e hp he
      have h7 := ih a h1 (by omega)
      have h8 := hc a e h1 he
      have h9 : dp_f c e a = dp_t c a + c a e := rfl
      omega
theorem dp_f_lt {c : Nat → Nat → Int} {N : Nat} (hc : dp_cok c N) {e : Nat} (he : e ≤ N) : ∀ i, i < e → 0 ≤ dp_f c e i ∧ dp_f c e i < 30000000 := fun i hi => by
  have h1 := dp_t_r hc i (by omega)
  have h2 := hc i e hi he
  unfold dp_f
  omega
theorem dp_o_has {c : Nat → Nat → Int} {N : Nat} (hc : dp_cok c N) {e : Nat} (he : e ≤ N) (hp : 0 < e) : ∃ a : Nat, dp_is (dp_f c e) e a ∧ dp_t c e = dp_f c e a ∧ dp_o c e = (a : Int) := by
  obtain ⟨a, h1, h2, h3⟩ := dp_has (f := dp_f c e) hp (fun i hi => by have := dp_f_lt hc he i hi; omega)
  exact ⟨a, h1, by rw [dp_t_s c hp]; exact h2, h3⟩
/-- the parameters of a layout: how many words, how wide, measure, law, fee, free -/
abbrev lt_Q : Type := Nat × (Nat → Int) × Int × Int × Int × Int
def lt_c (q : lt_Q) (i j : Nat) : Int := lt_pr q.1 q.2.2.2.1 q.2.2.2.2.1 q.2.2.2.2.2 (q.2.2.1 - (lt_pl q.2.1 j - lt_pl q.2.1 i - 1)) j
def lt_ok (q : lt_Q) : Prop := (q.1 ≤ 40 ∧ (1 ≤ q.2.2.1 ∧ q.2.2.1 ≤ 200) ∧ (0 ≤ q.2.2.2.1 ∧ q.2.2.2.1 ≤ 4) ∧ (0 ≤ q.2.2.2.2.1 ∧ q.2.2.2.2.1 ≤ 99) ∧ (q.2.2.2.2.2 = 0 ∨ q.2.2.2.2.2 = 1)) ∧ lt_wok q.1 q.2.1
theorem lt_slack {q : lt_Q} (hq : lt_ok q) {i j : Nat} (hij : i < j) (hj : j ≤ q.1) : -3700 ≤ q.2.2.1 - (lt_pl q.2.1 j - lt_pl q.2.1 i - 1) ∧ q.2.2.1 - (lt_pl q.2.1 j - lt_pl q.2.1 i - 1) < 200 := by
  have h1 := lt_pl_mono hq.2 (Nat.le_of_lt hij) hj
  have h2 := lt_pl_r hq.2 j hj
  have h3 := lt_pl_r hq.2 i (by omega)
  have h4 := hq.1
  omega
theorem lt_cok {q : lt_Q} (hq : lt_ok q) : dp_cok (lt_c q) q.1 := fun i j hij hj => by
  have := lt_slack hq hij hj
  exact lt_pr_r hq.1.2.2.2.1 (by omega)
/-- a line that is too wide costs the more the wider it is -/
theorem lt_wide {q : lt_Q} (hq : lt_ok q) {i k j : Nat} (hik : i ≤ k) (hkj : k < j) (hj : j ≤ q.1) (hs : q.2.2.1 - (lt_pl q.2.1 j - lt_pl q.2.1 k - 1) < 0) : lt_c q k j ≤ lt_c q i j := by
  rcases Nat.lt_or_ge i k with z | z
  · have h1 := lt_pl_mono hq.2 hik (by omega)
    have h2 := lt_slack hq (show i < j by omega) hj
    unfold lt_c lt_pr
    rw [if_pos hs, if_pos (by omega)]
    have := lt_tight_mono (law := q.2.2.2.1) (a := -(q.2.2.1 - (lt_pl q.2.1 j - lt_pl q.2.1 k - 1))) (b := -(q.2.2.1 - (lt_pl q.2.1 j - lt_pl q.2.1 i - 1))) (by omega)
    omega
  · have : i = k := by omega
    subst this
    exact Int.le_refl _
end
section
/-! Layout: totals and owners -/
section LY2
variable {n : Nat} {h : eb_H} {b rt N bg : Nat} {me law fee fr lines : Int} {pl to ow lb ro : Nat → Int} {wf : Nat → Int}
theorem c_X3_pr {i j : Nat} (HL : ly_at h b rt N me law fee fr lines bg pl to ow lb ro) (hq : lt_ok (N, wf, me, law, fee, fr)) (hpl : ∀ k, k ≤ N → pl k = lt_pl wf k) (hij : i < j) (hj : j ≤ N) : eb_T mX3_price [.ref b, .int (eb_I (i : Int)), .int (eb_I (j : Int))] n h (eb_X (some (.int (eb_I (lt_c (N, wf, me, law, fee, fr) i j)))) n h) := by
  have hN : N ≤ 40 := hq.1.1
  have hs := lt_slack hq hij hj
  have e1 := hpl i (by omega)
  have e2 := hpl j hj
  have := c_X3_price (n := n) (i := i) (j := j) HL hq.1 (by omega) (by omega) (by rw [e1, e2]; exact hs)
  rw [e1, e2] at this
  exact this
theorem c_X3_settle {e : Nat} (HL : ly_at h b rt N me law fee fr lines bg pl to ow lb ro) (hq : lt_ok (N, wf, me, law, fee, fr)) (hpl : ∀ k, k ≤ N → pl k = lt_pl wf k) (he : 0 < e ∧ e ≤ N) (hto : ∀ i, i < e → to i = dp_t (lt_c (N, wf, me, law, fee, fr)) i) :
    eb_T mX3_settle [.ref b, .int (eb_I (e : Int))] n h (eb_X none n (eb_up (eb_up h (b + 2) (eb_ia 41 (eb_set to e (dp_t (lt_c (N, wf, me, law, fee, fr)) e)))) (b + 3) (eb_ia 41 (eb_set ow e (dp_o (lt_c (N, wf, me, law, fee, fr)) e))))) := by
  refine eb_T.of (by decide +kernel) (Nat.le_of_ble_eq_true rfl) ?_
  show eb_V _ _ 0 [.ref b, .int (eb_I (e : Int)), eb_no, eb_no, eb_no, eb_no, eb_no] [] (n, 0, 0) h _
  have HL' := HL
  obtain ⟨H_this, H_this_place, H_this_total, H_this_owner, H_this_lineBegin, H_this_row, H_this_roots⟩ := HL
  have hN : N ≤ 40 := hq.1.1
  have hme : 1 ≤ me ∧ me ≤ 200 := hq.1.2.1
  have hco := lt_cok hq
  have hfl := dp_f_lt hco he.2
  generalize hf : dp_f (lt_c (N, wf, me, law, fee, fr)) e = f at hfl
  have hfe : ∀ i, i < e → f i = to i + lt_c (N, wf, me, law, fee, fr) i e := fun i hi => by rw [← hf, hto i hi]; rfl
  have ht0 : ∀ i, i < e → 0 ≤ to i := fun i hi => by rw [hto i hi]; exact (dp_t_r hco i (by omega)).1
  have hcr : ∀ i, i < e → 0 ≤ lt_c (N, wf, me, law, fee, fr) i e ∧ lt_c (N, wf, me, law, fee, fr) i e ≤ 13690099 := fun i hi => hco i e hi he.2
  have fin : ∀ (a : Nat) (x4 x5 x6 : Value), dp_is f e a → eb_V mX3_settle (fun _ _ _ => True) 86 [.ref b, .int (eb_I (e : Int)), .int (eb_I (f a)), .int (eb_I (a : Int)), x4, x5, x6] [] (n, 0, 0) h (eb_R mX3_settle (eb_X none n (eb_up (eb_up h (b + 2) (eb_ia 41 (eb_set to e (dp_t (lt_c (N, wf, me, law, fee, fr)) e)))) (b + 3) (eb_ia 41 (eb_set ow e (dp_o (lt_c (N, wf, me, law, fee, fr)) e)))))) := by
    intro a x4 x5 x6 ha
    have e1 := dp_eq (fun i hi => by have := hfl i hi; omega) ha
    have e2 : dp_t (lt_c (N, wf, me, law, fee, fr)) e = f a := by rw [dp_t_s _ he.1, hf]; exact e1.1
    have e3 : dp_o (lt_c (N, wf, me, law, fee, fr)) e = (a : Int) := by unfold dp_o; rw [hf]; exact e1.2
    rw [e2, e3]
    refine V_aload_n eX3_settle_86 rfl rfl ?_
    refine V_getf eX3_settle_87 H_this rfl ?_
    refine V_iload_n eX3_settle_90 rfl rfl ?_
    refine V_iload_n eX3_settle_91 rfl rfl ?_
    refine V_iast eX3_settle_92 H_this_total (by omega) ?_
    refine V_aload_n eX3_settle_93 rfl rfl ?_
    refine V_getf eX3_settle_94 (eb_up_n (by omega) H_this) rfl ?_
    refine V_iload_n eX3_settle_97 rfl rfl ?_
    refine V_iload_n eX3_settle_98 rfl rfl ?_
    refine V_iast eX3_settle_99 (eb_up_n (by omega) H_this_owner) (by omega) ?_
    exact V_vret eX3_settle_100 ⟨Nat.zero_le _, Nat.zero_le _⟩ rfl (⟨rfl, rfl, by simp⟩)
  have loop : ∀ (k : Nat) (x5 x6 : Value), k ≤ e → ∀ (least : Int) (from_ : Int), ((k = e ∧ least = 2147483647) ∨ ∃ a : Nat, from_ = (a : Int) ∧ least = f a ∧ k ≤ a ∧ a < e ∧ ∀ i, k ≤ i → i < e → f a ≤ f i ∧ (i < a → f a < f i)) → eb_V mX3_settle (fun _ _ _ => True) 10 [.ref b, .int (eb_I (e : Int)), .int (eb_I least), .int (eb_I from_), .int (eb_I ((k : Int) - 1)), x5, x6] [] (n, 0, 0) h (eb_R mX3_settle (eb_X none n (eb_up (eb_up h (b + 2) (eb_ia 41 (eb_set to e (dp_t (lt_c (N, wf, me, law, fee, fr)) e)))) (b + 3) (eb_ia 41 (eb_set ow e (dp_o (lt_c (N, wf, me, law, fee, fr)) e)))))) := by
    intro k
    induction k with
    | zero =>
      intro x5 x6 hk least from_ hinv
      rcases hinv with ⟨h0, -⟩ | ⟨a, rfl, rfl, h1, h2, h3⟩
      · omega
      · refine V_iload eX3_settle_10 rfl ?_
        refine V_if_lt (tgt := 86) eX3_settle_12 rfl (by omega) (fun c_12 => ?_) (fun c_12 => ?_)
        · exact fin a _ _ _ ⟨h2, fun i hi => h3 i (Nat.zero_le _) hi⟩
        · exact absurd (by omega) c_12
    | succ k ih =>
      intro x5 x6 hk least from_ hinv
      have hs := lt_slack hq (show k < e by omega) he.2
      simp only at hs
      have e1 := hpl k (by omega)
      have e2 := hpl e he.2
      have hle : least ≤ 2147483647 ∧ 0 ≤ least := by
        rcases hinv with ⟨-, rfl⟩ | ⟨a, -, rfl, h1, h2, h3⟩
        · omega
        · have := hfl a h2
          omega
      have hfk := hfl k (by omega)
      have hfek := hfe k (by omega)
      have htk := ht0 k (by omega)
      have hck := hcr k (by omega)
      have hal : lt_pr N law fee fr (me - (pl e - pl k - 1)) e = lt_c (N, wf, me, law, fee, fr) k e := by rw [e1, e2]; rfl
      have nxt : ∀ (least' from' : Int) (x5 x6 : Value), (∃ a : Nat, from' = (a : Int) ∧ least' = f a ∧ k ≤ a ∧ a < e ∧ ∀ i, k ≤ i → i < e → f a ≤ f i ∧ (i < a → f a < f i)) → eb_V mX3_settle (fun _ _ _ => True) 80 [.ref b, .int (eb_I (e : Int)), .int (eb_I least'), .int (eb_I from'), .int (eb_I (k : Int)), x5, x6] [] (n, 0, 0) h (eb_R mX3_settle (eb_X none n (eb_up (eb_up h (b + 2) (eb_ia 41 (eb_set to e (dp_t (lt_c (N, wf, me, law, fee, fr)) e)))) (b + 3) (eb_ia 41 (eb_set ow e (dp_o (lt_c (N, wf, me, law, fee, fr)) e)))))) := by
        intro least' from' x5 x6 hh
        refine V_iinc eX3_settle_80 rfl rfl (eb_sS (eb_sS (eb_sS (eb_sS eb_s0)))) ?_
        refine V_goto (tgt := 10) eX3_settle_83 rfl ?_
        exact ih _ _ (by omega) _ _ (Or.inr hh)
      have body : ∀ (x5 x6 : Value), eb_V mX3_settle (fun _ _ _ => True) 52 [.ref b, .int (eb_I (e : Int)), .int (eb_I least), .int (eb_I from_), .int (eb_I (k : Int)), x5, .int (eb_I (lt_c (N, wf, me, law, fee, fr) k e))] [] (n, 0, 0) h (eb_R mX3_settle (eb_X none n (eb_up (eb_up h (b + 2) (eb_ia 41 (eb_set to e (dp_t (lt_c (N, wf, me, law, fee, fr)) e)))) (b + 3) (eb_ia 41 (eb_set ow e (dp_o (lt_c (N, wf, me, law, fee, fr)) e)))))) := by
        intro x5 x6
        refine V_aload_n eX3_settle_52 rfl rfl ?_
        refine V_getf eX3_settle_53 H_this rfl ?_
        refine V_iload eX3_settle_56 rfl ?_
        refine V_iald eX3_settle_58 H_this_total (by omega) ?_
        simp only [Int.toNat_natCast]
        refine V_iload eX3_settle_59 rfl ?_
        refine V_iadd eX3_settle_61 ?_
        rw [← hfek]
        refine V_iload_n eX3_settle_62 rfl rfl ?_
        refine V_icmp_gt (tgt := 80) eX3_settle_63 rfl (by omega) (fun c_63 => ?_) (fun c_63 => ?_)
        · refine nxt _ _ _ _ ?_
          rcases hinv with ⟨h0, h1⟩ | ⟨a, h0, h1, h2, h3, h4⟩
          · omega
          · refine ⟨a, h0, h1, by omega, h3, fun i hi hi2 => ?_⟩
            rcases Nat.lt_or_ge k i with z | z
            · exact h4 i z hi2
            · have : i = k := by omega
              subst this
              exact ⟨by omega, fun _ => by omega⟩
        · refine V_aload_n eX3_settle_66 rfl rfl ?_
          refine V_getf eX3_settle_67 H_this rfl ?_
          refine V_iload eX3_settle_70 rfl ?_
          refine V_iald eX3_settle_72 H_this_total (by omega) ?_
          simp only [Int.toNat_natCast]
          refine V_iload eX3_settle_73 rfl ?_
          refine V_iadd eX3_settle_75 ?_
          rw [← hfek]
          refine V_istore_n eX3_settle_76 rfl (Nat.le_of_ble_eq_true rfl) rfl (eb_sS (eb_sS eb_s0)) ?_
          refine V_iload eX3_settle_77 rfl ?_
          refine V_istore_n eX3_settle_79 rfl (Nat.le_of_ble_eq_true rfl) rfl (eb_sS (eb_sS (eb_sS eb_s0))) ?_
          refine nxt _ _ _ _ ⟨k, rfl, rfl, Nat.le_refl _, by omega, fun i hi hi2 => ?_⟩
          rcases Nat.lt_or_ge k i with z | z
          · refine ⟨?_, fun q => by omega⟩
            rcases hinv with ⟨h0, h1⟩ | ⟨a, h0, h1, h2, h3, h4⟩
            · omega
            · have := (h4 i z hi2).1
              omega
          · have : i = k := by omega
            subst this
            exact ⟨Int.le_refl _, fun q => absurd q (by omega)⟩
      rw [show ((k + 1 : Nat) : Int) - 1 = (k : Int) by omega]
      refine V_iload eX3_settle_10 rfl ?_
      refine V_if_lt (tgt := 86) eX3_settle_12 rfl (by omega) (fun c_12 => ?_) (fun c_12 => ?_)
      · exact absurd c_12 (by omega)
      · refine V_aload_n eX3_settle_15 rfl rfl ?_
        refine V_getf eX3_settle_16 H_this rfl ?_
        refine V_aload_n eX3_settle_19 rfl rfl ?_
        refine V_iload eX3_settle_20 rfl ?_
        refine V_iload_n eX3_settle_22 rfl rfl ?_
        refine V_cvi eX3_settle_23 (c_X3_widthOf HL' (by omega) (by omega)) H_this rfl rfl (Nat.le_of_ble_eq_true rfl) ⟨rfl, rfl⟩ ⟨Nat.zero_le _, Nat.zero_le _⟩ ?_
        refine V_isub eX3_settle_26 ?_
        refine V_istore eX3_settle_27 (Nat.le_of_ble_eq_true rfl) rfl (eb_sS (eb_sS (eb_sS (eb_sS (eb_sS eb_s0))))) ?_
        refine V_aload_n eX3_settle_29 rfl rfl ?_
        refine V_iload eX3_settle_30 rfl ?_
        refine V_iload_n eX3_settle_32 rfl rfl ?_
        refine V_cvi eX3_settle_33 (c_X3_priceOf HL' hq.1 (by rw [e1, e2]; exact hs) (by omega)) H_this rfl rfl (Nat.le_of_ble_eq_true rfl) ⟨rfl, rfl⟩ ⟨Nat.zero_le _, Nat.zero_le _⟩ ?_
        rw [hal]
        refine V_istore eX3_settle_36 (Nat.le_of_ble_eq_true rfl) rfl (eb_sS (eb_sS (eb_sS (eb_sS (eb_sS (eb_sS eb_s0)))))) ?_
        refine V_iload eX3_settle_38 rfl ?_
        refine V_if_ge (tgt := 52) eX3_settle_40 rfl (by rw [e1, e2]; omega) (fun c_40 => ?_) (fun c_40 => ?_)
        · exact body _ (.int (eb_I 0))
        · refine V_iload eX3_settle_43 rfl ?_
          refine V_iload_n eX3_settle_45 rfl rfl ?_
          refine V_icmp_le (tgt := 52) eX3_settle_46 rfl (by omega) (fun c_46 => ?_) (fun c_46 => ?_)
          · exact body _ (.int (eb_I 0))
          · refine V_goto (tgt := 86) eX3_settle_49 rfl ?_
            rcases hinv with ⟨h0, h1⟩ | ⟨a, rfl, rfl, h2, h3, h4⟩
            · omega
            · refine fin a _ _ _ ⟨h3, fun i hi => ?_⟩
              rcases Nat.lt_or_ge k i with z | z
              · exact h4 i z hi
              · have w := lt_wide hq z (show k < e by omega) he.2 (by rw [e1, e2] at c_40; simp only; omega)
                have u := hfe i hi
                have v := ht0 i hi
                exact ⟨by omega, fun _ => by omega⟩
  refine V_ldc (a := 2147483647) eX3_settle_0 wd_319 (by decide) ?_
  refine V_istore_n eX3_settle_2 rfl (Nat.le_of_ble_eq_true rfl) rfl (eb_sS (eb_sS eb_s0)) ?_
  refine V_iconst eX3_settle_3 ?_
  refine V_istore_n eX3_settle_4 rfl (Nat.le_of_ble_eq_true rfl) rfl (eb_sS (eb_sS (eb_sS eb_s0))) ?_
  refine V_iload_n eX3_settle_5 rfl rfl ?_
  refine V_iconst eX3_settle_6 ?_
  refine V_isub eX3_settle_7 ?_
  refine V_istore eX3_settle_8 (Nat.le_of_ble_eq_true rfl) rfl (eb_sS (eb_sS (eb_sS (eb_sS eb_s0)))) ?_
  rw [show (e : Int) - 1 = ((e : Nat) : Int) - 1 from rfl]
  exact loop e _ _ (Nat.le_refl _) _ _ (Or.inl ⟨rfl, rfl⟩)
end LY2
end
section
/-! where lines begin: a list, and as a set of bits -/
def br_F (o : Nat → Int) : Nat → Nat → List Nat
  | 0, _ => []
  | f + 1, e => if e = 0 then [] else br_F o f (o e).toNat ++ [(o e).toNat]
def br_ok (o : Nat → Int) (N : Nat) : Prop := ∀ e, 0 < e → e ≤ N → 0 ≤ o e ∧ o e < e
theorem br_fuel {o : Nat → Int} {N : Nat} (ho : br_ok o N) : ∀ (f e : Nat), e ≤ f → e ≤ N → br_F o f e = br_F o e e := by
  intro f
  induction f using Nat.strongRecOn with
  | _ f ih =>
    intro e hf hN
    rcases Nat.eq_zero_or_pos e with rfl | hp
    · cases f <;> simp [br_F]
    · obtain ⟨f, rfl⟩ : ∃ x, f = x + 1 := ⟨f - 1, by omega⟩
      obtain ⟨e, rfl⟩ : ∃ x, e = x + 1 := ⟨e - 1, by omega⟩
      have h1 := ho (e + 1) hp hN
      simp only [br_F]
      rw [if_neg (by omega), if_neg (by omega), ih f (by omega) _ (by omega) (by omega)]
      rcases Nat.lt_or_ge e f with z | z
      · rw [ih e (by omega) _ (by omega) (by omega)]
      · have : e = f := by omega
        subst this
        rw [ih e (by omega) _ (by omega) (by omega)]
theorem br_step {o : Nat → Int} {N : Nat} (ho : br_ok o N) {e : Nat} (hp : 0 < e) (hN : e ≤ N) : br_F o e e = br_F o (o e).toNat (o e).toNat ++ [(o e).toNat] := by
  obtain ⟨x, rfl⟩ : ∃ x, e = x + 1 := ⟨e - 1, by omega⟩
  have h1 := ho (x + 1) hp hN
  show (if x + 1 = 0 then [] else br_F o x (o (x + 1)).toNat ++ [(o (x + 1)).toNat]) = _
  rw [if_neg (by omega), br_fuel ho x _ (by omega) (by omega)]
/-- going up, and below the end -/
theorem br_up {o : Nat → Int} {N : Nat} (ho : br_ok o N) : ∀ e, e ≤ N → (∀ x ∈ br_F o e e, x < e) ∧ (br_F o e e).Pairwise (· < ·) := by
  intro e
  induction e using Nat.strongRecOn with
  | _ e ih =>
    intro hN
    rcases Nat.eq_zero_or_pos e with rfl | hp
    · simp [br_F]
    · have h1 := ho e hp hN
      rw [br_step ho hp hN]
      obtain ⟨h2, h3⟩ := ih (o e).toNat (by omega) (by omega)
      refine ⟨fun x hx => ?_, ?_⟩
      · rcases List.mem_append.mp hx with q | q
        · have := h2 x q
          omega
        · rw [List.mem_singleton.mp q]
          omega
      · rw [List.pairwise_append]
        refine ⟨h3, by simp, fun a ha c hc => ?_⟩
        rw [List.mem_singleton.mp hc]
        exact h2 a ha
def br_mk : List Nat → Nat
  | [] => 0
  | x :: t => 2 ^ x ||| br_mk t
theorem br_mk_app (l : List Nat) (a : Nat) : br_mk (l ++ [a]) = br_mk l ||| 2 ^ a := by
  induction l with
  | nil => simp [br_mk]
  | cons x t ih => simp only [List.cons_append, br_mk, ih, Nat.or_assoc]
theorem br_mk_lt {l : List Nat} {k : Nat} (h : ∀ x ∈ l, x < k) : br_mk l < 2 ^ k := by
  induction l with
  | nil => exact Nat.pow_pos (by decide)
  | cons x t ih =>
    simp only [br_mk]
    exact Nat.or_lt_two_pow (Nat.pow_lt_pow_right (by decide) (h x List.mem_cons_self)) (ih (fun y hy => h y (List.mem_cons_of_mem _ hy)))
theorem br_bit (m i : Nat) : m / 2 ^ i % 2 = if m.testBit i then 1 else 0 := by
  have h1 : m.testBit i = decide (m / 2 ^ i % 2 = 1) := by
    first | exact Nat.testBit_eq_decide_div_mod_eq | exact Nat.testBit_to_div_mod | simp [Nat.testBit, Nat.shiftRight_eq_div_pow]
  have h2 : m / 2 ^ i % 2 < 2 := Nat.mod_lt _ (by decide)
  rw [h1]
  by_cases c : m / 2 ^ i % 2 = 1
  · simp [c]
  · rw [if_neg (by simp [c])]
    omega
theorem br_mk_bit (l : List Nat) (i : Nat) : (br_mk l).testBit i = decide (i ∈ l) := by
  induction l with
  | nil => simp [br_mk]
  | cons x t ih =>
    simp only [br_mk, Nat.testBit_or, Nat.testBit_two_pow, ih, List.mem_cons]
    by_cases c : x = i
    · simp [c]
    · have : ¬ i = x := fun q => c q.symm
      simp [c, this]
theorem br_mk_at (l : List Nat) (i : Nat) : br_mk l / 2 ^ i % 2 = if i ∈ l then 1 else 0 := by
  rw [br_bit, br_mk_bit]
  by_cases c : i ∈ l <;> simp [c]
/-- the next one of a rising list -/
theorem br_next {l : List Nat} (hs : l.Pairwise (· < ·)) {m e : Nat} (h1 : ∀ k (hk : k < l.length), k < m → l[k] < e) (h2 : ∀ k (hk : k < l.length), m ≤ k → e ≤ l[k]) (he : e ∈ l) : ∃ hm : m < l.length, l[m] = e := by
  obtain ⟨k, hk, rfl⟩ := List.getElem_of_mem he
  have a : m ≤ k := by
    rcases Nat.lt_or_ge k m with z | z
    · have := h1 k hk z
      omega
    · exact z
  refine ⟨by omega, ?_⟩
  rcases Nat.lt_or_ge m k with z | z
  · have w := List.pairwise_iff_getElem.mp hs m k (by omega) hk z
    have u := h2 m (by omega) (Nat.le_refl _)
    omega
  · have : k = m := by omega
    subst this
    rfl
/-- the lines of a layout -/
def lt_B (q : lt_Q) : List Nat := br_F (dp_o (lt_c q)) q.1 q.1
theorem lt_brok {q : lt_Q} (hq : lt_ok q) : br_ok (dp_o (lt_c q)) q.1 := fun e hp he => by
  obtain ⟨a, h1, -, h3⟩ := dp_o_has (lt_cok hq) he hp
  rw [h3]
  have := h1.1
  omega
theorem lt_B_up {q : lt_Q} (hq : lt_ok q) : (∀ x ∈ lt_B q, x < q.1) ∧ (lt_B q).Pairwise (· < ·) := br_up (lt_brok hq) q.1 (Nat.le_refl _)
theorem br_len {l : List Nat} {N : Nat} (h1 : ∀ x ∈ l, x < N) (h2 : l.Pairwise (· < ·)) : l.length ≤ N := by
  have key : ∀ k (hk : k < l.length), k ≤ l[k] := by
    intro k
    induction k with
    | zero => intro _; omega
    | succ k ih =>
      intro hk
      have := ih (by omega)
      have w := List.pairwise_iff_getElem.mp h2 k (k + 1) (by omega) hk (by omega)
      omega
  rcases Nat.eq_zero_or_pos l.length with z | z
  · omega
  · have a := key (l.length - 1) (by omega)
    have b := h1 l[l.length - 1] (List.getElem_mem _)
    omega
section LYU
variable {h h1 : eb_H} {b rt N bg : Nat} {me law fee fr lines : Int} {pl to ow lb ro : Nat → Int}
def ly_fr (h h' : eb_H) (b : Nat) : Prop := ∀ k, (k < b ∨ b + 5 < k) → h' k = h k
theorem ly_fr.rf : ly_fr h h b := fun _ _ => rfl
theorem ly_fr.up {a : Nat} {e : va_E} (H : ly_fr h h1 b) (ha : b ≤ a ∧ a ≤ b + 5) : ly_fr h (eb_up h1 a e) b := fun k hk => by
  rw [eb_up, if_neg (by omega)]
  exact H k hk
theorem ly_fr.tr {h2 : eb_H} (H : ly_fr h h1 b) (H2 : ly_fr h1 h2 b) : ly_fr h h2 b := fun k hk => (H2 k hk).trans (H k hk)
theorem ly_u0 {N' bg' : Nat} {me' law' fee' fr' lines' : Int} (HL : ly_at h b rt N me law fee fr lines bg pl to ow lb ro) (hrt : rt < b) : ly_at (eb_up h b (ly_obj b rt N' me' law' fee' fr' lines' bg')) b rt N' me' law' fee' fr' lines' bg' pl to ow lb ro := by
  obtain ⟨a0, a1, a2, a3, a4, a5, a6⟩ := HL
  exact ⟨eb_up_s, eb_up_n (by omega) a1, eb_up_n (by omega) a2, eb_up_n (by omega) a3, eb_up_n (by omega) a4, eb_up_n (by omega) a5, eb_up_n (by omega) a6⟩
theorem ly_u1 {f : Nat → Int} (HL : ly_at h b rt N me law fee fr lines bg pl to ow lb ro) (hrt : rt < b) : ly_at (eb_up h (b + 1) (eb_ia 41 f)) b rt N me law fee fr lines bg f to ow lb ro := by
  obtain ⟨a0, a1, a2, a3, a4, a5, a6⟩ := HL
  exact ⟨eb_up_n (by omega) a0, eb_up_s, eb_up_n (by omega) a2, eb_up_n (by omega) a3, eb_up_n (by omega) a4, eb_up_n (by omega) a5, eb_up_n (by omega) a6⟩
theorem ly_u2 {f : Nat → Int} (HL : ly_at h b rt N me law fee fr lines bg pl to ow lb ro) (hrt : rt < b) : ly_at (eb_up h (b + 2) (eb_ia 41 f)) b rt N me law fee fr lines bg pl f ow lb ro := by
  obtain ⟨a0, a1, a2, a3, a4, a5, a6⟩ := HL
  exact ⟨eb_up_n (by omega) a0, eb_up_n (by omega) a1, eb_up_s, eb_up_n (by omega) a3, eb_up_n (by omega) a4, eb_up_n (by omega) a5, eb_up_n (by omega) a6⟩
theorem ly_u3 {f : Nat → Int} (HL : ly_at h b rt N me law fee fr lines bg pl to ow lb ro) (hrt : rt < b) : ly_at (eb_up h (b + 3) (eb_ia 41 f)) b rt N me law fee fr lines bg pl to f lb ro := by
  obtain ⟨a0, a1, a2, a3, a4, a5, a6⟩ := HL
  exact ⟨eb_up_n (by omega) a0, eb_up_n (by omega) a1, eb_up_n (by omega) a2, eb_up_s, eb_up_n (by omega) a4, eb_up_n (by omega) a5, eb_up_n (by omega) a6⟩
theorem ly_u4 {f : Nat → Int} (HL : ly_at h b rt N me law fee fr lines bg pl to ow lb ro) (hrt : rt < b) : ly_at (eb_up h (b + 4) (eb_ia 41 f)) b rt N me law fee fr lines bg pl to ow f ro := by
  obtain ⟨a0, a1, a2, a3, a4, a5, a6⟩ := HL
  exact ⟨eb_up_n (by omega) a0, eb_up_n (by omega) a1, eb_up_n (by omega) a2, eb_up_n (by omega) a3, eb_up_s, eb_up_n (by omega) a5, eb_up_n (by omega) a6⟩
theorem ly_u5 {f : Nat → Int} (HL : ly_at h b rt N me law fee fr lines bg pl to ow lb ro) (hrt : rt < b) : ly_at (eb_up h (b + 5) (eb_ia 41 f)) b rt N me law fee fr lines bg pl to ow lb f := by
  obtain ⟨a0, a1, a2, a3, a4, a5, a6⟩ := HL
  exact ⟨eb_up_n (by omega) a0, eb_up_n (by omega) a1, eb_up_n (by omega) a2, eb_up_n (by omega) a3, eb_up_n (by omega) a4, eb_up_s, eb_up_n (by omega) a6⟩
end LYU
end
section
section LY3
variable {n : Nat} {h : eb_H} {b rt N bg : Nat} {me law fee fr lines : Int} {pl to ow lb ro : Nat → Int} {wf : Nat → Int}
theorem c_X3_layLines {o : Nat → Int} (HL : ly_at h b rt N me law fee fr lines bg pl to ow lb ro) (hrt : rt < b) (hN : N ≤ 40) (ho : br_ok o N) (how : ∀ e, 0 < e → e ≤ N → ow e = o e) :
    eb_T mX3_layLines [.ref b] n h (eb_G none n (fun h' => ∃ lb', ly_at h' b rt N me law fee fr ((br_F o N N).length : Int) (br_mk (br_F o N N)) pl to ow lb' ro ∧ (∀ k (hk : k < (br_F o N N).length), lb' k = ((br_F o N N)[k] : Int)) ∧ ly_fr h h' b)) := by
  refine eb_T.of (by decide +kernel) (Nat.le_of_ble_eq_true rfl) ?_
  show eb_V _ _ 0 [.ref b, eb_no, eb_no] [] (n, 0, 0) h _
  generalize hG : (fun h' => ∃ lb', ly_at h' b rt N me law fee fr ((br_F o N N).length : Int) (br_mk (br_F o N N)) pl to ow lb' ro ∧ (∀ k (hk : k < (br_F o N N).length), lb' k = ((br_F o N N)[k] : Int)) ∧ ly_fr h h' b) = G
  have HL' := HL
  obtain ⟨hup, hso⟩ := br_up ho N (Nat.le_refl _)
  have hlen := br_len hup hso
  generalize hB : br_F o N N = B at hG hup hso hlen
  have hmk : br_mk B < 2 ^ 41 := br_mk_lt (fun x hx => by have := hup x hx; omega)
  have loop2 : ∀ (d e m : Nat) (h2 : eb_H) (lb2 : Nat → Int) (l2 : Int) (x1 : Int32), l2 = (m : Int) → e + d = N → m ≤ B.length → (∀ k (hk : k < B.length), k < m → B[k] < e) → (∀ k (hk : k < B.length), m ≤ k → e ≤ B[k]) → (∀ k (hk : k < B.length), k < m → lb2 k = (B[k] : Int)) → ly_at h2 b rt N me law fee fr l2 (br_mk B) pl to ow lb2 ro → ly_fr h h2 b → eb_V mX3_layLines (fun _ _ _ => True) 56 [.ref b, .int x1, .int (eb_I (e : Int))] [] (n, 0, 0) h2 (eb_R mX3_layLines (eb_G none n G)) := by
    intro d
    induction d with
    | zero =>
      intro e m h2 lb2 l2 x1 hl hed hm g1 g2 g3 HL2 hfr
      have HL2' := HL2
      obtain ⟨H_this, H_this_place, H_this_total, H_this_owner, H_this_lineBegin, H_this_row, H_this_roots⟩ := HL2
      have hml : m = B.length := by
        rcases Nat.lt_or_ge m B.length with z | z
        · have u := g2 m z (Nat.le_refl _)
          have v := hup B[m] (List.getElem_mem z)
          omega
        · omega
      subst hml
      subst hl
      refine V_iload_n eX3_layLines_56 rfl rfl ?_
      refine V_aload_n eX3_layLines_57 rfl rfl ?_
      refine V_getf eX3_layLines_58 H_this rfl ?_
      refine V_icmp_ge (tgt := 98) eX3_layLines_61 rfl (by omega) (fun c_61 => ?_) (fun c_61 => ?_)
      · exact V_vret eX3_layLines_98 ⟨Nat.zero_le _, Nat.zero_le _⟩ rfl (⟨rfl, rfl, by rw [← hG]; exact ⟨lb2, HL2', fun k hk => g3 k hk hk, hfr⟩⟩)
      · exact absurd (by omega) c_61
    | succ d ih =>
      intro e m h2 lb2 l2 x1 hl hed hm g1 g2 g3 HL2 hfr
      have HL2' := HL2
      have hbit := br_mk_at B e
      obtain ⟨H_this, H_this_place, H_this_total, H_this_owner, H_this_lineBegin, H_this_row, H_this_roots⟩ := HL2
      by_cases hin : e ∈ B
      · rw [if_pos hin] at hbit
        obtain ⟨hmlt, hme⟩ := br_next hso g1 g2 hin
        have HL3 := ly_u0 (N' := N) (bg' := br_mk B) (me' := me) (law' := law) (fee' := fee) (fr' := fr) (lines' := l2 + 1) (ly_u4 (f := eb_set lb2 l2.toNat (e : Int)) HL2' hrt) hrt
        have hfr3 := (hfr.up (a := b + 4) (e := eb_ia 41 (eb_set lb2 l2.toNat (e : Int))) (by omega)).up (a := b) (e := ly_obj b rt N me law fee fr (l2 + 1) (br_mk B)) (by omega)
        refine V_iload_n eX3_layLines_56 rfl rfl ?_
        refine V_aload_n eX3_layLines_57 rfl rfl ?_
        refine V_getf eX3_layLines_58 H_this rfl ?_
        refine V_icmp_ge (tgt := 98) eX3_layLines_61 rfl (by omega) (fun c_61 => ?_) (fun c_61 => ?_)
        · exact absurd c_61 (by omega)
        · refine V_aload_n eX3_layLines_64 rfl rfl ?_
          refine V_iload_n eX3_layLines_65 rfl rfl ?_
          refine V_cvi eX3_layLines_66 (c_X3_isBegin HL2' (by omega) (by omega)) H_this rfl rfl (Nat.le_of_ble_eq_true rfl) ⟨rfl, rfl⟩ ⟨Nat.zero_le _, Nat.zero_le _⟩ ?_
          rw [hbit]
          refine V_if_eq (tgt := 92) eX3_layLines_69 rfl (by decide) (fun c_69 => ?_) (fun c_69 => ?_)
          · exact absurd c_69 (by decide)
          · refine V_aload_n eX3_layLines_72 rfl rfl ?_
            refine V_getf eX3_layLines_73 H_this rfl ?_
            refine V_aload_n eX3_layLines_76 rfl rfl ?_
            refine V_getf eX3_layLines_77 H_this rfl ?_
            refine V_iload_n eX3_layLines_80 rfl rfl ?_
            refine V_iast eX3_layLines_81 H_this_lineBegin (by omega) ?_
            refine V_aload_n eX3_layLines_82 rfl rfl ?_
            refine V_dup eX3_layLines_83 rfl ?_
            refine V_getf eX3_layLines_84 (eb_up_n (by omega) H_this) rfl ?_
            refine V_iconst eX3_layLines_87 ?_
            refine V_iadd eX3_layLines_88 ?_
            refine V_putf eX3_layLines_89 (eb_up_n (by omega) H_this) eb_fitI (eb_sS (eb_sS (eb_sS (eb_sS (eb_sS (eb_sS (eb_sS (eb_sS (eb_sS (eb_sS (eb_sS eb_s0))))))))))) (Nat.le_of_ble_eq_true rfl) ?_
            refine V_iinc eX3_layLines_92 rfl rfl (eb_sS (eb_sS eb_s0)) ?_
            refine V_goto (tgt := 56) eX3_layLines_95 rfl ?_
            refine ih (e + 1) (m + 1) _ (eb_set lb2 l2.toNat (e : Int)) (l2 + 1) x1 (by omega) (by omega) (by omega) (fun k hk hkm => ?_) (fun k hk hkm => ?_) (fun k hk hkm => ?_) HL3 hfr3
            · rcases Nat.lt_or_ge k m with z | z
              · have := g1 k hk z
                omega
              · have : k = m := by omega
                subst this
                omega
            · have := List.pairwise_iff_getElem.mp hso m k hmlt hk (by omega)
              omega
            · unfold eb_set
              rcases Nat.lt_or_ge k m with z | z
              · rw [if_neg (by omega)]
                exact g3 k hk z
              · have : k = m := by omega
                subst this
                rw [if_pos (by omega), hme]
      · rw [if_neg hin] at hbit
        refine V_iload_n eX3_layLines_56 rfl rfl ?_
        refine V_aload_n eX3_layLines_57 rfl rfl ?_
        refine V_getf eX3_layLines_58 H_this rfl ?_
        refine V_icmp_ge (tgt := 98) eX3_layLines_61 rfl (by omega) (fun c_61 => ?_) (fun c_61 => ?_)
        · exact absurd c_61 (by omega)
        · refine V_aload_n eX3_layLines_64 rfl rfl ?_
          refine V_iload_n eX3_layLines_65 rfl rfl ?_
          refine V_cvi eX3_layLines_66 (c_X3_isBegin HL2' (by omega) (by omega)) H_this rfl rfl (Nat.le_of_ble_eq_true rfl) ⟨rfl, rfl⟩ ⟨Nat.zero_le _, Nat.zero_le _⟩ ?_
          rw [hbit]
          refine V_if_eq (tgt := 92) eX3_layLines_69 rfl (by decide) (fun c_69 => ?_) (fun c_69 => ?_)
          · refine V_iinc eX3_layLines_92 rfl rfl (eb_sS (eb_sS eb_s0)) ?_
            refine V_goto (tgt := 56) eX3_layLines_95 rfl ?_
            refine ih (e + 1) m h2 lb2 l2 x1 hl (by omega) hm (fun k hk hkm => ?_) (fun k hk hkm => ?_) g3 HL2' hfr
            · have := g1 k hk hkm
              omega
            · have u := g2 k hk hkm
              rcases Nat.lt_or_ge e B[k] with z | z
              · exact z
              · have : B[k] = e := by omega
                exact absurd (this ▸ List.getElem_mem hk) hin
          · exact absurd rfl c_69
  have loop1 : ∀ (m e k : Nat) (h1 : eb_H) (bg1 : Nat), e ≤ m → k + e ≤ N → br_mk (br_F o e e) ||| bg1 = br_mk B → bg1 < 2 ^ 41 → ly_at h1 b rt N me law fee fr lines bg1 pl to ow lb ro → ly_fr h h1 b → eb_V mX3_layLines (fun _ _ _ => True) 12 [.ref b, .int (eb_I (e : Int)), .int (eb_I (k : Int))] [] (n, 0, 0) h1 (eb_R mX3_layLines (eb_G none n G)) := by
    intro m
    induction m with
    | zero =>
      intro e k h1 bg1 he hke hmk1 hb1 HL1 hfr
      have he0 : e = 0 := by omega
      subst he0
      have hbg : bg1 = br_mk B := by rw [← hmk1]; simp [br_F, br_mk]
      subst hbg
      have HL3 := ly_u0 (N' := N) (bg' := br_mk B) (me' := me) (law' := law) (fee' := fee) (fr' := fr) (lines' := 0) HL1 hrt
      have hfr3 := hfr.up (a := b) (e := ly_obj b rt N me law fee fr 0 (br_mk B)) (by omega)
      obtain ⟨H_this, H_this_place, H_this_total, H_this_owner, H_this_lineBegin, H_this_row, H_this_roots⟩ := HL1
      have J : ∀ x : Value, eb_V mX3_layLines (fun _ _ _ => True) 49 [.ref b, .int (eb_I ((0 : Nat) : Int)), x] [] (n, 0, 0) h1 (eb_R mX3_layLines (eb_G none n G)) := by
        intro x
        refine V_aload_n eX3_layLines_49 rfl rfl ?_
        refine V_iconst eX3_layLines_50 ?_
        refine V_putf eX3_layLines_51 H_this eb_fitI (eb_sS (eb_sS (eb_sS (eb_sS (eb_sS (eb_sS (eb_sS (eb_sS (eb_sS (eb_sS (eb_sS eb_s0))))))))))) (Nat.le_of_ble_eq_true rfl) ?_
        refine V_iconst eX3_layLines_54 ?_
        refine V_istore_n eX3_layLines_55 rfl (Nat.le_of_ble_eq_true rfl) rfl (eb_sS (eb_sS eb_s0)) ?_
        exact loop2 N 0 0 _ lb 0 _ rfl (by omega) (by omega) (fun k hk hkm => absurd hkm (by omega)) (fun k hk hkm => Nat.zero_le _) (fun k hk hkm => absurd hkm (by omega)) HL3 hfr3
      refine V_iload_n eX3_layLines_12 rfl rfl ?_
      refine V_aload_n eX3_layLines_13 rfl rfl ?_
      refine V_getf eX3_layLines_14 H_this rfl ?_
      refine V_icmp_ge (tgt := 49) eX3_layLines_17 rfl (by omega) (fun c_17 => ?_) (fun c_17 => ?_)
      · exact J _
      · refine V_iload_n eX3_layLines_20 rfl rfl ?_
        refine V_if_le (tgt := 49) eX3_layLines_21 rfl (by omega) (fun c_21 => ?_) (fun c_21 => ?_)
        · exact J _
        · exact absurd (by omega) c_21
    | succ m ih =>
      intro e k h1 bg1 he hke hmk1 hb1 HL1 hfr
      rcases Nat.lt_or_ge m e with z | z
      · have hp : 0 < e := by omega
        have hst := br_step ho hp (by omega)
        have hoe := ho e hp (by omega)
        have hwe := how e hp (by omega)
        have HL1' := HL1
        obtain ⟨H_this, H_this_place, H_this_total, H_this_owner, H_this_lineBegin, H_this_row, H_this_roots⟩ := HL1
        obtain ⟨a, ha⟩ : ∃ a : Nat, o e = (a : Int) := ⟨(o e).toNat, by omega⟩
        rw [ha] at hst hwe hoe
        simp only [Int.toNat_natCast] at hst
        rw [hst, br_mk_app] at hmk1
        have hpa : (2 : Nat) ^ a < 2 ^ 41 := Nat.pow_lt_pow_right (by decide) (by omega)
        have hor : bg1 ||| 1 * 2 ^ a < 2 ^ 41 := by rw [Nat.one_mul]; exact Nat.or_lt_two_pow hb1 hpa
        have HL3 := ly_u0 (N' := N) (bg' := bg1 ||| 1 * 2 ^ a) (me' := me) (law' := law) (fee' := fee) (fr' := fr) (lines' := lines) HL1' hrt
        have hfr3 := hfr.up (a := b) (e := ly_obj b rt N me law fee fr lines (bg1 ||| 1 * 2 ^ a)) (by omega)
        have hih := ih a (k + 1) _ (bg1 ||| 1 * 2 ^ a) (by omega) (by omega) (by rw [Nat.one_mul, ← hmk1, Nat.or_assoc, Nat.or_comm bg1]) hor HL3 hfr3
        refine V_iload_n eX3_layLines_12 rfl rfl ?_
        refine V_aload_n eX3_layLines_13 rfl rfl ?_
        refine V_getf eX3_layLines_14 H_this rfl ?_
        refine V_icmp_ge (tgt := 49) eX3_layLines_17 rfl (by omega) (fun c_17 => ?_) (fun c_17 => ?_)
        · exact absurd c_17 (by omega)
        · refine V_iload_n eX3_layLines_20 rfl rfl ?_
          refine V_if_le (tgt := 49) eX3_layLines_21 rfl (by omega) (fun c_21 => ?_) (fun c_21 => ?_)
          · exact absurd c_21 (by omega)
          · refine V_aload_n eX3_layLines_24 rfl rfl ?_
            refine V_getf eX3_layLines_25 H_this rfl ?_
            refine V_iload_n eX3_layLines_28 rfl rfl ?_
            refine V_iald eX3_layLines_29 H_this_owner (by omega) ?_
            rw [show ((e : Nat) : Int).toNat = e from Int.toNat_natCast e, hwe]
            refine V_istore_n eX3_layLines_30 rfl (Nat.le_of_ble_eq_true rfl) rfl (eb_sS eb_s0) ?_
            refine V_aload_n eX3_layLines_31 rfl rfl ?_
            refine V_dup eX3_layLines_32 rfl ?_
            refine V_getf eX3_layLines_33 H_this rfl ?_
            refine V_lconst (b := 1) eX3_layLines_36 (by decide) ?_
            refine V_iload_n eX3_layLines_37 rfl rfl ?_
            refine V_lshl eX3_layLines_38 (eb_shl (a := 1) (by omega)) ?_
            refine V_lor eX3_layLines_39 (eb_or (by omega) (by omega)) ?_
            refine V_putf eX3_layLines_40 H_this eb_fitJ (eb_sS (eb_sS (eb_sS (eb_sS (eb_sS (eb_sS (eb_sS (eb_sS (eb_sS (eb_sS (eb_sS (eb_sS eb_s0)))))))))))) (Nat.le_of_ble_eq_true rfl) ?_
            refine V_iinc eX3_layLines_43 rfl rfl (eb_sS (eb_sS eb_s0)) ?_
            refine V_goto (tgt := 12) eX3_layLines_46 rfl ?_
            exact hih
      · exact ih e k h1 bg1 z hke hmk1 hb1 HL1 hfr
  have HL3 := ly_u0 (N' := N) (bg' := 0) (me' := me) (law' := law) (fee' := fee) (fr' := fr) (lines' := lines) HL' hrt
  obtain ⟨H_this, H_this_place, H_this_total, H_this_owner, H_this_lineBegin, H_this_row, H_this_roots⟩ := HL
  refine V_aload_n eX3_layLines_0 rfl rfl ?_
  refine V_lconst (b := 0) eX3_layLines_1 (by decide) ?_
  refine V_putf eX3_layLines_2 H_this eb_fitJ (eb_sS (eb_sS (eb_sS (eb_sS (eb_sS (eb_sS (eb_sS (eb_sS (eb_sS (eb_sS (eb_sS (eb_sS eb_s0)))))))))))) (Nat.le_of_ble_eq_true rfl) ?_
  refine V_aload_n eX3_layLines_5 rfl rfl ?_
  refine V_getf eX3_layLines_6 eb_up_s rfl ?_
  refine V_istore_n eX3_layLines_9 rfl (Nat.le_of_ble_eq_true rfl) rfl (eb_sS eb_s0) ?_
  refine V_iconst eX3_layLines_10 ?_
  refine V_istore_n eX3_layLines_11 rfl (Nat.le_of_ble_eq_true rfl) rfl (eb_sS (eb_sS eb_s0)) ?_
  exact loop1 N N 0 _ 0 (Nat.le_refl _) (by omega) (by rw [hB]; simp) (by decide) HL3 (ly_fr.rf.up (by omega))
end LY3
end
section
/-! a layout that is solved -/
def ly_sv (h : eb_H) (b rt N : Nat) (wf : Nat → Int) (me law fee fr : Int) (ro : Nat → Int) : Prop := ∃ pl to ow lb, ly_at h b rt N me law fee fr ((lt_B (N, wf, me, law, fee, fr)).length : Int) (br_mk (lt_B (N, wf, me, law, fee, fr))) pl to ow lb ro ∧ (∀ k, k ≤ N → pl k = lt_pl wf k) ∧ (∀ e, e ≤ N → to e = dp_t (lt_c (N, wf, me, law, fee, fr)) e) ∧ (ow 0 = -1 ∧ ∀ e, 0 < e → e ≤ N → ow e = dp_o (lt_c (N, wf, me, law, fee, fr)) e) ∧ (∀ k (hk : k < (lt_B (N, wf, me, law, fee, fr)).length), lb k = ((lt_B (N, wf, me, law, fee, fr))[k] : Int))
/-! a text: its words, and by what it is broken -/
abbrev tx_obj (t N : Nat) (me law fee fr : Int) : va_E := .inr (6, [.ref (t + 1), .int (eb_I (N : Int)), .int (eb_I me), .int (eb_I law), .int (eb_I fee), .int (eb_I fr)])
def tx_at (h : eb_H) (t : Nat) (ws : List (List Nat)) (me law fee fr : Int) : Prop := h t = tx_obj t ws.length me law fee fr ∧ ∃ f : Nat → Int, h (t + 1) = eb_la 40 f ∧ ∀ w (hw : w < ws.length), f w = (sp_enc ws[w] : Int)
def tx_ok (ws : List (List Nat)) (me law fee fr : Int) : Prop := ly_ok ws.length me law fee fr ∧ ∀ l ∈ ws, sp_ok l ∧ 0 < l.length
def tx_wf (ws : List (List Nat)) (w : Nat) : Int := match ws[w]? with
  | some l => sp_ww l
  | none => 0
theorem tx_wf_at {ws : List (List Nat)} {w : Nat} (hw : w < ws.length) : tx_wf ws w = sp_ww ws[w] := by simp [tx_wf, hw]
theorem tx_wok {ws : List (List Nat)} {me law fee fr : Int} (h : tx_ok ws me law fee fr) : lt_wok ws.length (tx_wf ws) := fun k hk => by
  rw [tx_wf_at hk]
  have h1 := h.2 ws[k] (List.getElem_mem hk)
  have h2 := sp_ww_r ws[k]
  have h3 := h1.1.2
  omega
theorem tx_lok {ws : List (List Nat)} {me law fee fr : Int} (h : tx_ok ws me law fee fr) : lt_ok (ws.length, tx_wf ws, me, law, fee, fr) := ⟨h.1, tx_wok h⟩
def br_ln (B : List Nat) (w : Nat) : Nat → Nat → Nat
  | 0, k => k
  | f + 1, k => if k + 1 < B.length ∧ B.getD (k + 1) 0 ≤ w then br_ln B w f (k + 1) else k
section LY4
variable {n : Nat} {h : eb_H} {b rt N bg : Nat} {me law fee fr lines : Int} {pl to ow lb ro : Nat → Int} {wf : Nat → Int}
theorem c_X3_solve (HL : ly_at h b rt N me law fee fr lines bg pl to ow lb ro) (hrt : rt < b) (hq : lt_ok (N, wf, me, law, fee, fr)) (hpl : ∀ k, k ≤ N → pl k = lt_pl wf k) : eb_T mX3_solve [.ref b] n h (eb_G none n (fun h' => ly_sv h' b rt N wf me law fee fr ro ∧ ly_fr h h' b)) := by
  refine eb_T.of (by decide +kernel) (Nat.le_of_ble_eq_true rfl) ?_
  show eb_V _ _ 0 [.ref b, eb_no] [] (n, 0, 0) h _
  have hN : N ≤ 40 := hq.1.1
  generalize hG : (fun h' => ly_sv h' b rt N wf me law fee fr ro ∧ ly_fr h h' b) = G
  have loop : ∀ (d e : Nat) (h1 : eb_H) (to1 ow1 : Nat → Int), 0 < e → e + d = N + 1 → ly_at h1 b rt N me law fee fr lines bg pl to1 ow1 lb ro → ly_fr h h1 b → (∀ i, i < e → to1 i = dp_t (lt_c (N, wf, me, law, fee, fr)) i) → (ow1 0 = -1 ∧ ∀ i, 0 < i → i < e → ow1 i = dp_o (lt_c (N, wf, me, law, fee, fr)) i) → eb_V mX3_solve (fun _ _ _ => True) 16 [.ref b, .int (eb_I (e : Int))] [] (n, 0, 0) h1 (eb_R mX3_solve (eb_G none n G)) := by
    intro d
    induction d with
    | zero =>
      intro e h1 to1 ow1 he hed HL1 hfr g1 g2
      have HL1' := HL1
      obtain ⟨H_this, H_this_place, H_this_total, H_this_owner, H_this_lineBegin, H_this_row, H_this_roots⟩ := HL1
      refine V_iload_n eX3_solve_16 rfl rfl ?_
      refine V_aload_n eX3_solve_17 rfl rfl ?_
      refine V_getf eX3_solve_18 H_this rfl ?_
      refine V_icmp_gt (tgt := 35) eX3_solve_21 rfl (by omega) (fun c_21 => ?_) (fun c_21 => ?_)
      · refine V_aload_n eX3_solve_35 rfl rfl ?_
        refine V_cvg eX3_solve_36 (c_X3_layLines HL1' hrt hN (lt_brok hq) (fun i hi hi2 => g2.2 i hi (by omega))) H_this rfl rfl (Nat.le_of_ble_eq_true rfl) ⟨rfl, rfl⟩ ⟨Nat.zero_le _, Nat.zero_le _⟩ (fun h2 ⟨lb2, HL2, hlb, hfr2⟩ => ?_)
        exact V_vret eX3_solve_39 ⟨Nat.zero_le _, Nat.zero_le _⟩ rfl (⟨rfl, rfl, by rw [← hG]; exact ⟨⟨pl, to1, ow1, lb2, HL2, hpl, fun i hi => g1 i (by omega), ⟨g2.1, fun i hi hi2 => g2.2 i hi (by omega)⟩, hlb⟩, hfr.tr hfr2⟩⟩)
      · exact absurd (by omega) c_21
    | succ d ih =>
      intro e h1 to1 ow1 he hed HL1 hfr g1 g2
      have HL1' := HL1
      have HL3 := ly_u3 (f := eb_set ow1 e (dp_o (lt_c (N, wf, me, law, fee, fr)) e)) (ly_u2 (f := eb_set to1 e (dp_t (lt_c (N, wf, me, law, fee, fr)) e)) HL1' hrt) hrt
      have hfr3 := (hfr.up (a := b + 2) (e := eb_ia 41 (eb_set to1 e (dp_t (lt_c (N, wf, me, law, fee, fr)) e))) (by omega)).up (a := b + 3) (e := eb_ia 41 (eb_set ow1 e (dp_o (lt_c (N, wf, me, law, fee, fr)) e))) (by omega)
      obtain ⟨H_this, H_this_place, H_this_total, H_this_owner, H_this_lineBegin, H_this_row, H_this_roots⟩ := HL1
      refine V_iload_n eX3_solve_16 rfl rfl ?_
      refine V_aload_n eX3_solve_17 rfl rfl ?_
      refine V_getf eX3_solve_18 H_this rfl ?_
      refine V_icmp_gt (tgt := 35) eX3_solve_21 rfl (by omega) (fun c_21 => ?_) (fun c_21 => ?_)
      · exact absurd c_21 (by omega)
      · refine V_aload_n eX3_solve_24 rfl rfl ?_
        refine V_iload_n eX3_solve_25 rfl rfl ?_
        refine V_cvv eX3_solve_26 (c_X3_settle HL1' hq hpl ⟨he, by omega⟩ g1) H_this rfl rfl (Nat.le_of_ble_eq_true rfl) ⟨rfl, rfl⟩ ⟨Nat.zero_le _, Nat.zero_le _⟩ ?_
        refine V_iinc eX3_solve_29 rfl rfl (eb_sS eb_s0) ?_
        refine V_goto (tgt := 16) eX3_solve_32 rfl ?_
        refine ih (e + 1) _ _ _ (by omega) (by omega) HL3 hfr3 (fun i hi => ?_) ⟨?_, fun i hi hi2 => ?_⟩
        · unfold eb_set
          by_cases z : i = e
          · rw [if_pos z, z]
          · rw [if_neg z]
            exact g1 i (by omega)
        · unfold eb_set
          rw [if_neg (by omega)]
          exact g2.1
        · unfold eb_set
          by_cases z : i = e
          · rw [if_pos z, z]
          · rw [if_neg z]
            exact g2.2 i hi (by omega)
  have HL3 := ly_u3 (f := eb_set ow 0 (-1)) (ly_u2 (f := eb_set to 0 0) HL hrt) hrt
  obtain ⟨H_this, H_this_place, H_this_total, H_this_owner, H_this_lineBegin, H_this_row, H_this_roots⟩ := HL
  refine V_aload_n eX3_solve_0 rfl rfl ?_
  refine V_getf eX3_solve_1 H_this rfl ?_
  refine V_iconst eX3_solve_4 ?_
  refine V_iconst eX3_solve_5 ?_
  refine V_iast eX3_solve_6 H_this_total (by omega) ?_
  refine V_aload_n eX3_solve_7 rfl rfl ?_
  refine V_getf eX3_solve_8 (eb_up_n (by omega) H_this) rfl ?_
  refine V_iconst eX3_solve_11 ?_
  refine V_iconst eX3_solve_12 ?_
  refine V_iast eX3_solve_13 (eb_up_n (by omega) H_this_owner) (by omega) ?_
  refine V_iconst eX3_solve_14 ?_
  refine V_istore_n eX3_solve_15 rfl (Nat.le_of_ble_eq_true rfl) rfl (eb_sS eb_s0) ?_
  refine loop N 1 _ _ _ (by omega) (by omega) HL3 ((ly_fr.rf.up (by omega)).up (by omega)) (fun i hi => ?_) ⟨rfl, fun i hi hi2 => absurd hi2 (by omega)⟩
  have : i = 0 := by omega
  subst this
  rfl
theorem c_X3_widen {w : Nat} (HL : ly_at h b rt N me law fee fr lines bg pl to ow lb ro) (hrt : rt < b) (hN : N ≤ 40) (hw : w < N) : eb_T mX3_widen [.ref b, .int (eb_I (w : Int)), .int (eb_I 1)] n h (eb_G none n (fun h' => (∃ pl', ly_at h' b rt N me law fee fr lines bg pl' to ow lb ro ∧ ∀ e, e ≤ N → pl' e = if w < e then pl e + 1 else pl e) ∧ ly_fr h h' b)) := by
  refine eb_T.of (by decide +kernel) (Nat.le_of_ble_eq_true rfl) ?_
  show eb_V _ _ 0 [.ref b, .int (eb_I (w : Int)), .int (eb_I 1), eb_no] [] (n, 0, 0) h _
  generalize hG : (fun h' => (∃ pl', ly_at h' b rt N me law fee fr lines bg pl' to ow lb ro ∧ ∀ e, e ≤ N → pl' e = if w < e then pl e + 1 else pl e) ∧ ly_fr h h' b) = G
  have loop : ∀ (d e : Nat) (h1 : eb_H) (pl1 : Nat → Int), w < e → e + d = N + 1 → ly_at h1 b rt N me law fee fr lines bg pl1 to ow lb ro → ly_fr h h1 b → (∀ i, i ≤ N → pl1 i = if w < i ∧ i < e then pl i + 1 else pl i) → eb_V mX3_widen (fun _ _ _ => True) 4 [.ref b, .int (eb_I (w : Int)), .int (eb_I 1), .int (eb_I (e : Int))] [] (n, 0, 0) h1 (eb_R mX3_widen (eb_G none n G)) := by
    intro d
    induction d with
    | zero =>
      intro e h1 pl1 he hed HL1 hfr g
      have HL1' := HL1
      obtain ⟨H_this, H_this_place, H_this_total, H_this_owner, H_this_lineBegin, H_this_row, H_this_roots⟩ := HL1
      refine V_iload_n eX3_widen_4 rfl rfl ?_
      refine V_aload_n eX3_widen_5 rfl rfl ?_
      refine V_getf eX3_widen_6 H_this rfl ?_
      refine V_icmp_gt (tgt := 28) eX3_widen_9 rfl (by omega) (fun c_9 => ?_) (fun c_9 => ?_)
      · exact V_vret eX3_widen_28 ⟨Nat.zero_le _, Nat.zero_le _⟩ rfl (⟨rfl, rfl, by rw [← hG]; exact ⟨⟨pl1, HL1', fun i hi => by rw [g i hi]; simp only [show (w < i ∧ i < e) ↔ w < i from ⟨fun q => q.1, fun q => ⟨q, by omega⟩⟩]⟩, hfr⟩⟩)
      · exact absurd (by omega) c_9
    | succ d ih =>
      intro e h1 pl1 he hed HL1 hfr g
      have HL1' := HL1
      have HL3 := ly_u1 (f := eb_set pl1 ((e : Nat) : Int).toNat (pl1 ((e : Nat) : Int).toNat + 1)) HL1' hrt
      obtain ⟨H_this, H_this_place, H_this_total, H_this_owner, H_this_lineBegin, H_this_row, H_this_roots⟩ := HL1
      refine V_iload_n eX3_widen_4 rfl rfl ?_
      refine V_aload_n eX3_widen_5 rfl rfl ?_
      refine V_getf eX3_widen_6 H_this rfl ?_
      refine V_icmp_gt (tgt := 28) eX3_widen_9 rfl (by omega) (fun c_9 => ?_) (fun c_9 => ?_)
      · exact absurd c_9 (by omega)
      · refine V_aload_n eX3_widen_12 rfl rfl ?_
        refine V_getf eX3_widen_13 H_this rfl ?_
        refine V_iload_n eX3_widen_16 rfl rfl ?_
        refine V_dup2 eX3_widen_17 rfl rfl ?_
        refine V_iald eX3_widen_18 H_this_place (by omega) ?_
        refine V_iload_n eX3_widen_19 rfl rfl ?_
        refine V_iadd eX3_widen_20 ?_
        refine V_iast eX3_widen_21 H_this_place (by omega) ?_
        refine V_iinc eX3_widen_22 rfl rfl (eb_sS (eb_sS (eb_sS eb_s0))) ?_
        refine V_goto (tgt := 4) eX3_widen_25 rfl ?_
        refine ih (e + 1) _ _ (by omega) (by omega) HL3 (hfr.up (by omega)) (fun i hi => ?_)
        simp only [Int.toNat_natCast]
        unfold eb_set
        by_cases z : i = e
        · subst z
          rw [if_pos rfl, g i hi, if_neg (by omega), if_pos (by omega)]
        · rw [if_neg z, g i hi]
          by_cases y : w < i ∧ i < e
          · rw [if_pos y, if_pos (by omega)]
          · rw [if_neg y, if_neg (by omega)]
  refine V_iload_n eX3_widen_0 rfl rfl ?_
  refine V_iconst eX3_widen_1 ?_
  refine V_iadd eX3_widen_2 ?_
  refine V_istore_n eX3_widen_3 rfl (Nat.le_of_ble_eq_true rfl) rfl (eb_sS (eb_sS (eb_sS eb_s0))) ?_
  exact loop (N - w) (w + 1) h pl (by omega) (by omega) HL ly_fr.rf (fun i hi => by rw [if_neg (by omega)])
theorem c_X3_lineOf {w : Nat} {B : List Nat} (HL : ly_at h b rt N me law fee fr (B.length : Int) bg pl to ow lb ro) (hB : B.length ≤ 40) (hb : ∀ x ∈ B, x < 100) (hw : w ≤ 40) (hlb : ∀ k (hk : k < B.length), lb k = (B[k] : Int)) : eb_T mX3_lineOf [.ref b, .int (eb_I (w : Int))] n h (eb_X (some (.int (eb_I (br_ln B w B.length 0 : Nat)))) n h) := by
  refine eb_T.of (by decide +kernel) (Nat.le_of_ble_eq_true rfl) ?_
  show eb_V _ _ 0 [.ref b, .int (eb_I (w : Int)), eb_no] [] (n, 0, 0) h _
  obtain ⟨H_this, H_this_place, H_this_total, H_this_owner, H_this_lineBegin, H_this_row, H_this_roots⟩ := HL
  have loop : ∀ (f k : Nat), B.length ≤ k + 1 + f → k ≤ 40 → eb_V mX3_lineOf (fun _ _ _ => True) 2 [.ref b, .int (eb_I (w : Int)), .int (eb_I (k : Int))] [] (n, 0, 0) h (eb_R mX3_lineOf (eb_X (some (.int (eb_I (br_ln B w f k : Nat)))) n h)) := by
    intro f
    induction f with
    | zero =>
      intro k hk hk2
      refine V_iload_n eX3_lineOf_2 rfl rfl ?_
      refine V_iconst eX3_lineOf_3 ?_
      refine V_iadd eX3_lineOf_4 ?_
      refine V_aload_n eX3_lineOf_5 rfl rfl ?_
      refine V_getf eX3_lineOf_6 H_this rfl ?_
      refine V_icmp_ge (tgt := 30) eX3_lineOf_9 rfl (by omega) (fun c_9 => ?_) (fun c_9 => ?_)
      · refine V_iload_n eX3_lineOf_30 rfl rfl ?_
        exact V_iret eX3_lineOf_31 ⟨Nat.zero_le _, Nat.zero_le _⟩ rfl (rfl) (⟨rfl, rfl, rfl⟩)
      · exact absurd (by omega) c_9
    | succ f ih =>
      intro k hk hk2
      by_cases c : k + 1 < B.length ∧ B.getD (k + 1) 0 ≤ w
      · have e1 : br_ln B w (f + 1) k = br_ln B w f (k + 1) := by simp only [br_ln]; rw [if_pos c]
        have e2 : lb ((k : Int) + 1).toNat = (B.getD (k + 1) 0 : Int) := by
          rw [show ((k : Int) + 1).toNat = k + 1 by omega, hlb (k + 1) c.1]
          simp [c.1]
        rw [e1]
        refine V_iload_n eX3_lineOf_2 rfl rfl ?_
        refine V_iconst eX3_lineOf_3 ?_
        refine V_iadd eX3_lineOf_4 ?_
        refine V_aload_n eX3_lineOf_5 rfl rfl ?_
        refine V_getf eX3_lineOf_6 H_this rfl ?_
        refine V_icmp_ge (tgt := 30) eX3_lineOf_9 rfl (by omega) (fun c_9 => ?_) (fun c_9 => ?_)
        · exact absurd c_9 (by omega)
        · refine V_aload_n eX3_lineOf_12 rfl rfl ?_
          refine V_getf eX3_lineOf_13 H_this rfl ?_
          refine V_iload_n eX3_lineOf_16 rfl rfl ?_
          refine V_iconst eX3_lineOf_17 ?_
          refine V_iadd eX3_lineOf_18 ?_
          refine V_iald eX3_lineOf_19 H_this_lineBegin (by omega) ?_
          rw [e2]
          refine V_iload_n eX3_lineOf_20 rfl rfl ?_
          refine V_icmp_gt (tgt := 30) eX3_lineOf_21 rfl (by omega) (fun c_21 => ?_) (fun c_21 => ?_)
          · exact absurd c_21 (by omega)
          · refine V_iinc eX3_lineOf_24 rfl rfl (eb_sS (eb_sS eb_s0)) ?_
            refine V_goto (tgt := 2) eX3_lineOf_27 rfl ?_
            exact ih (k + 1) (by omega) (by omega)
      · have e1 : br_ln B w (f + 1) k = k := by simp only [br_ln]; rw [if_neg c]
        rw [e1]
        by_cases c1 : k + 1 < B.length
        · have e2 : lb ((k : Int) + 1).toNat = (B.getD (k + 1) 0 : Int) := by
            rw [show ((k : Int) + 1).toNat = k + 1 by omega, hlb (k + 1) c1]
            simp [c1]
          have e3 : B.getD (k + 1) 0 < 100 := by
            have := hb B[k + 1] (List.getElem_mem c1)
            simp [c1]
            exact this
          refine V_iload_n eX3_lineOf_2 rfl rfl ?_
          refine V_iconst eX3_lineOf_3 ?_
          refine V_iadd eX3_lineOf_4 ?_
          refine V_aload_n eX3_lineOf_5 rfl rfl ?_
          refine V_getf eX3_lineOf_6 H_this rfl ?_
          refine V_icmp_ge (tgt := 30) eX3_lineOf_9 rfl (by omega) (fun c_9 => ?_) (fun c_9 => ?_)
          · exact absurd c_9 (by omega)
          · refine V_aload_n eX3_lineOf_12 rfl rfl ?_
            refine V_getf eX3_lineOf_13 H_this rfl ?_
            refine V_iload_n eX3_lineOf_16 rfl rfl ?_
            refine V_iconst eX3_lineOf_17 ?_
            refine V_iadd eX3_lineOf_18 ?_
            refine V_iald eX3_lineOf_19 H_this_lineBegin (by omega) ?_
            rw [e2]
            refine V_iload_n eX3_lineOf_20 rfl rfl ?_
            refine V_icmp_gt (tgt := 30) eX3_lineOf_21 rfl (by omega) (fun c_21 => ?_) (fun c_21 => ?_)
            · refine V_iload_n eX3_lineOf_30 rfl rfl ?_
              exact V_iret eX3_lineOf_31 ⟨Nat.zero_le _, Nat.zero_le _⟩ rfl (rfl) (⟨rfl, rfl, rfl⟩)
            · exact absurd ⟨c1, by omega⟩ c
        · refine V_iload_n eX3_lineOf_2 rfl rfl ?_
          refine V_iconst eX3_lineOf_3 ?_
          refine V_iadd eX3_lineOf_4 ?_
          refine V_aload_n eX3_lineOf_5 rfl rfl ?_
          refine V_getf eX3_lineOf_6 H_this rfl ?_
          refine V_icmp_ge (tgt := 30) eX3_lineOf_9 rfl (by omega) (fun c_9 => ?_) (fun c_9 => ?_)
          · refine V_iload_n eX3_lineOf_30 rfl rfl ?_
            exact V_iret eX3_lineOf_31 ⟨Nat.zero_le _, Nat.zero_le _⟩ rfl (rfl) (⟨rfl, rfl, rfl⟩)
          · exact absurd (by omega) c_9
  refine V_iconst eX3_lineOf_0 ?_
  refine V_istore_n eX3_lineOf_1 rfl (Nat.le_of_ble_eq_true rfl) rfl (eb_sS (eb_sS eb_s0)) ?_
  exact loop B.length 0 (by omega) (by omega)
theorem c_X3_load {t : Nat} {ws : List (List Nat)} {N0 : Nat} {me0 law0 fee0 fr0 : Int} (HL : ly_at h b rt N0 me0 law0 fee0 fr0 lines bg pl to ow lb ro) (hrt : rt < b) (HT : tx_at h t ws me law fee fr) (HO : tx_ok ws me law fee fr) (ht : t + 1 < b) : eb_T mX3_load [.ref b, .ref t] n h (eb_G none n (fun h' => (∃ pl', ly_at h' b rt ws.length me law fee fr lines bg pl' to ow lb ro ∧ ∀ k, k ≤ ws.length → pl' k = lt_pl (tx_wf ws) k) ∧ ly_fr h h' b)) := by
  refine eb_T.of (by decide +kernel) (Nat.le_of_ble_eq_true rfl) ?_
  show eb_V _ _ 0 [.ref b, .ref t, eb_no] [] (n, 0, 0) h _
  have hN : ws.length ≤ 40 := HO.1.1
  obtain ⟨H_p1, f, H_p1_words, hf⟩ := HT
  have hfr0 := HO.1.2.2.2.2
  generalize hG : (fun h' => (∃ pl', ly_at h' b rt ws.length me law fee fr lines bg pl' to ow lb ro ∧ ∀ k, k ≤ ws.length → pl' k = lt_pl (tx_wf ws) k) ∧ ly_fr h h' b) = G
  have loop : ∀ (d w : Nat) (h1 : eb_H) (pl1 : Nat → Int), w + d = ws.length → ly_at h1 b rt ws.length me law fee fr lines bg pl1 to ow lb ro → ly_fr h h1 b → (∀ k, k ≤ w → pl1 k = lt_pl (tx_wf ws) k) → eb_V mX3_load (fun _ _ _ => True) 49 [.ref b, .ref t, .int (eb_I (w : Int))] [] (n, 0, 0) h1 (eb_R mX3_load (eb_G none n G)) := by
    intro d
    induction d with
    | zero =>
      intro w h1 pl1 hwd HL1 hfr g
      have HL1' := HL1
      obtain ⟨H_this, H_this_place, H_this_total, H_this_owner, H_this_lineBegin, H_this_row, H_this_roots⟩ := HL1
      refine V_iload_n eX3_load_49 rfl rfl ?_
      refine V_aload_n eX3_load_50 rfl rfl ?_
      refine V_getf eX3_load_51 H_this rfl ?_
      refine V_icmp_ge (tgt := 89) eX3_load_54 rfl (by omega) (fun c_54 => ?_) (fun c_54 => ?_)
      · exact V_vret eX3_load_89 ⟨Nat.zero_le _, Nat.zero_le _⟩ rfl (⟨rfl, rfl, by rw [← hG]; exact ⟨⟨pl1, HL1', fun k hk => g k (by omega)⟩, hfr⟩⟩)
      · exact absurd (by omega) c_54
    | succ d ih =>
      intro w h1 pl1 hwd HL1 hfr g
      have HL1' := HL1
      have hwl : w < ws.length := by omega
      have hle := HO.2 ws[w] (List.getElem_mem hwl)
      have H_p1 : h1 t = tx_obj t ws.length me law fee fr := (hfr t (by omega)).trans H_p1
      have H_p1_words : h1 (t + 1) = eb_la 40 f := (hfr (t + 1) (by omega)).trans H_p1_words
      have HL3 := ly_u1 (f := eb_set pl1 ((w : Int) + 1).toNat (pl1 ((w : Nat) : Int).toNat + sp_ww ws[w] + 1)) HL1' hrt
      obtain ⟨H_this, H_this_place, H_this_total, H_this_owner, H_this_lineBegin, H_this_row, H_this_roots⟩ := HL1
      refine V_iload_n eX3_load_49 rfl rfl ?_
      refine V_aload_n eX3_load_50 rfl rfl ?_
      refine V_getf eX3_load_51 H_this rfl ?_
      refine V_icmp_ge (tgt := 89) eX3_load_54 rfl (by omega) (fun c_54 => ?_) (fun c_54 => ?_)
      · exact absurd c_54 (by omega)
      · refine V_aload_n eX3_load_57 rfl rfl ?_
        refine V_getf eX3_load_58 H_this rfl ?_
        refine V_iload_n eX3_load_61 rfl rfl ?_
        refine V_iconst eX3_load_62 ?_
        refine V_iadd eX3_load_63 ?_
        refine V_aload_n eX3_load_64 rfl rfl ?_
        refine V_getf eX3_load_65 H_this rfl ?_
        refine V_iload_n eX3_load_68 rfl rfl ?_
        refine V_iald eX3_load_69 H_this_place (by omega) ?_
        refine V_aload_n eX3_load_70 rfl rfl ?_
        refine V_getf eX3_load_71 H_p1 rfl ?_
        refine V_iload_n eX3_load_74 rfl rfl ?_
        refine V_lald eX3_load_75 H_p1_words (by omega) ?_
        rw [show f ((w : Nat) : Int).toNat = (sp_enc ws[w] : Int) by rw [Int.toNat_natCast]; exact hf w hwl]
        refine V_csi eX3_load_76 (c_X5_widthOf hle.1) rfl rfl (Nat.le_of_ble_eq_true rfl) ⟨rfl, rfl⟩ ⟨Nat.zero_le _, Nat.zero_le _⟩ ?_
        refine V_iadd eX3_load_79 ?_
        refine V_iconst eX3_load_80 ?_
        refine V_iadd eX3_load_81 ?_
        refine V_iast eX3_load_82 H_this_place (by omega) ?_
        refine V_iinc eX3_load_83 rfl rfl (eb_sS (eb_sS eb_s0)) ?_
        refine V_goto (tgt := 49) eX3_load_86 rfl ?_
        refine ih (w + 1) _ _ (by omega) HL3 (hfr.up (by omega)) (fun k hk => ?_)
        rw [show ((w : Int) + 1).toNat = w + 1 by omega, Int.toNat_natCast]
        unfold eb_set
        by_cases z : k = w + 1
        · rw [if_pos z, g w (Nat.le_refl _), z]
          simp only [lt_pl]
          rw [tx_wf_at hwl]
        · rw [if_neg z]
          exact g k (by omega)
  have HL3 := ly_u1 (f := eb_set pl 0 0) (ly_u0 (N' := ws.length) (bg' := bg) (me' := me) (law' := law) (fee' := fee) (fr' := fr) (lines' := lines) HL hrt) hrt
  obtain ⟨H_this, H_this_place, H_this_total, H_this_owner, H_this_lineBegin, H_this_row, H_this_roots⟩ := HL
  have hcol : ∀ e1 e2 e3 e4 e5 : va_E, eb_up (eb_up (eb_up (eb_up (eb_up h b e1) b e2) b e3) b e4) b e5 = eb_up h b e5 := by
    intro e1 e2 e3 e4 e5
    funext k
    unfold eb_up
    by_cases z : k = b <;> simp [z]
  refine V_aload_n eX3_load_0 rfl rfl ?_
  refine V_aload_n eX3_load_1 rfl rfl ?_
  refine V_getf eX3_load_2 H_p1 rfl ?_
  refine V_putf eX3_load_5 H_this eb_fitI (eb_sS (eb_sS (eb_sS (eb_sS (eb_sS (eb_sS eb_s0)))))) (Nat.le_of_ble_eq_true rfl) ?_
  refine V_aload_n eX3_load_8 rfl rfl ?_
  refine V_aload_n eX3_load_9 rfl rfl ?_
  refine V_getf eX3_load_10 (eb_up_n (by omega) H_p1) rfl ?_
  refine V_putf eX3_load_13 eb_up_s eb_fitI (eb_sS (eb_sS (eb_sS (eb_sS (eb_sS (eb_sS (eb_sS eb_s0))))))) (Nat.le_of_ble_eq_true rfl) ?_
  refine V_aload_n eX3_load_16 rfl rfl ?_
  refine V_aload_n eX3_load_17 rfl rfl ?_
  refine V_getf eX3_load_18 (eb_up_n (by omega) (eb_up_n (by omega) H_p1)) rfl ?_
  refine V_putf eX3_load_21 eb_up_s eb_fitI (eb_sS (eb_sS (eb_sS (eb_sS (eb_sS (eb_sS (eb_sS (eb_sS eb_s0)))))))) (Nat.le_of_ble_eq_true rfl) ?_
  refine V_aload_n eX3_load_24 rfl rfl ?_
  refine V_aload_n eX3_load_25 rfl rfl ?_
  refine V_getf eX3_load_26 (eb_up_n (by omega) (eb_up_n (by omega) (eb_up_n (by omega) H_p1))) rfl ?_
  refine V_putf eX3_load_29 eb_up_s eb_fitI (eb_sS (eb_sS (eb_sS (eb_sS (eb_sS (eb_sS (eb_sS (eb_sS (eb_sS eb_s0))))))))) (Nat.le_of_ble_eq_true rfl) ?_
  refine V_aload_n eX3_load_32 rfl rfl ?_
  refine V_aload_n eX3_load_33 rfl rfl ?_
  refine V_getf eX3_load_34 (eb_up_n (by omega) (eb_up_n (by omega) (eb_up_n (by omega) (eb_up_n (by omega) H_p1)))) rfl ?_
  refine V_putf eX3_load_37 eb_up_s (eb_fitZ (hfr0)) (eb_sS (eb_sS (eb_sS (eb_sS (eb_sS (eb_sS (eb_sS (eb_sS (eb_sS (eb_sS eb_s0)))))))))) (Nat.le_of_ble_eq_true rfl) ?_
  refine V_aload_n eX3_load_40 rfl rfl ?_
  refine V_getf eX3_load_41 eb_up_s rfl ?_
  refine V_iconst eX3_load_44 ?_
  refine V_iconst eX3_load_45 ?_
  refine V_iast eX3_load_46 (eb_up_n (by omega) (eb_up_n (by omega) (eb_up_n (by omega) (eb_up_n (by omega) (eb_up_n (by omega) H_this_place))))) (by omega) ?_
  rw [hcol]
  refine V_iconst eX3_load_47 ?_
  refine V_istore_n eX3_load_48 rfl (Nat.le_of_ble_eq_true rfl) rfl (eb_sS (eb_sS eb_s0)) ?_
  refine loop ws.length 0 _ _ (by omega) HL3 ((ly_fr.rf.up (by omega)).up (by omega)) (fun k hk => ?_)
  have : k = 0 := by omega
  subst this
  rfl
end LY4
end
section
/-! which owner, in how many runs -/
def rn_F (g : Nat → Int) (e0 : Nat) : Nat → Int × Int
  | 0 => (0, -1)
  | d + 1 => (if g (e0 + d) = (rn_F g e0 d).2 then (rn_F g e0 d).1 else (rn_F g e0 d).1 + 1, g (e0 + d))
theorem rn_F_r (g : Nat → Int) (e0 d : Nat) : 0 ≤ (rn_F g e0 d).1 ∧ (rn_F g e0 d).1 ≤ d := by
  induction d with
  | zero => simp [rn_F]
  | succ d ih =>
    simp only [rn_F]
    split <;> omega
theorem dp_a_r (f : Nat → Int) (n : Nat) : -1 ≤ dp_a f n ∧ dp_a f n < n := by
  induction n with
  | zero => simp [dp_a]
  | succ n ih =>
    simp only [dp_a]
    split <;> omega
def lt_kn (c : Nat → Nat → Int) (e t : Nat) : Int := dp_a (dp_f c e) (t + 1)
section LYK
variable {n : Nat} {h : eb_H} {b rt N bg : Nat} {me law fee fr lines : Int} {pl to ow lb ro : Nat → Int} {wf : Nat → Int}
theorem c_X3_ownerKnownTo {e t : Nat} (HL : ly_at h b rt N me law fee fr lines bg pl to ow lb ro) (hq : lt_ok (N, wf, me, law, fee, fr)) (hpl : ∀ k, k ≤ N → pl k = lt_pl wf k) (hto : ∀ k, k ≤ N → to k = dp_t (lt_c (N, wf, me, law, fee, fr)) k) (he : e ≤ N) (ht : t < e) :
    eb_T mX3_ownerKnownTo [.ref b, .int (eb_I (e : Int)), .int (eb_I (t : Int))] n h (eb_X (some (.int (eb_I (lt_kn (lt_c (N, wf, me, law, fee, fr)) e t)))) n h) := by
  refine eb_T.of (by decide +kernel) (Nat.le_of_ble_eq_true rfl) ?_
  show eb_V _ _ 0 [.ref b, .int (eb_I (e : Int)), .int (eb_I (t : Int)), eb_no, eb_no, eb_no, eb_no] [] (n, 0, 0) h _
  have HL' := HL
  obtain ⟨H_this, H_this_place, H_this_total, H_this_owner, H_this_lineBegin, H_this_row, H_this_roots⟩ := HL
  have hN : N ≤ 40 := hq.1.1
  have hfl := dp_f_lt (lt_cok hq) he
  unfold lt_kn
  generalize hf : dp_f (lt_c (N, wf, me, law, fee, fr)) e = f at hfl ⊢
  have hfe : ∀ i, i < e → to i + lt_c (N, wf, me, law, fee, fr) i e = f i := fun i hi => by rw [← hf, hto i (by omega)]; rfl
  have loop : ∀ (d i : Nat) (least : Int) (x6 : Value), i + d = t + 1 → (least = dp_m f i ∨ (i = 0 ∧ least = 2147483647)) → eb_V mX3_ownerKnownTo (fun _ _ _ => True) 9 [.ref b, .int (eb_I (e : Int)), .int (eb_I (t : Int)), .int (eb_I least), .int (eb_I (dp_a f i)), .int (eb_I (i : Int)), x6] [] (n, 0, 0) h (eb_R mX3_ownerKnownTo (eb_X (some (.int (eb_I (dp_a f (t + 1))))) n h)) := by
    intro d
    induction d with
    | zero =>
      intro i least x6 hi hl
      have : i = t + 1 := by omega
      subst this
      refine V_iload eX3_ownerKnownTo_9 rfl ?_
      refine V_iload_n eX3_ownerKnownTo_11 rfl rfl ?_
      refine V_icmp_gt (tgt := 51) eX3_ownerKnownTo_12 rfl (by omega) (fun c_12 => ?_) (fun c_12 => ?_)
      · refine V_iload eX3_ownerKnownTo_51 rfl ?_
        exact V_iret eX3_ownerKnownTo_53 ⟨Nat.zero_le _, Nat.zero_le _⟩ rfl (rfl) (⟨rfl, rfl, rfl⟩)
      · exact absurd (by omega) c_12
    | succ d ih =>
      intro i least x6 hi hl
      have hfi := hfl i (by omega)
      have hm : dp_m f (i + 1) = if f i < dp_m f i then f i else dp_m f i := rfl
      have ha : dp_a f (i + 1) = if f i < dp_m f i then (i : Int) else dp_a f i := rfl
      have hlr : 0 ≤ least ∧ least ≤ 2147483647 := by
        rcases hl with q | ⟨q, q2⟩
        · rcases Nat.eq_zero_or_pos i with z | z
          · subst z
            rw [q]
            simp [dp_m]
          · obtain ⟨a, h1, h2, -⟩ := dp_has (f := f) z (fun k hk => by have := hfl k (by omega); omega)
            have := hfl a (by have := h1.1; omega)
            omega
        · omega
      have hiff : f i < least ↔ f i < dp_m f i := by
        rcases hl with q | ⟨q, q2⟩
        · rw [q]
        · subst q
          rw [q2, show dp_m f 0 = 2000000000 from rfl]
          omega
      have J : ∀ (least' fr' : Int) (x : Value), least' = dp_m f (i + 1) → fr' = dp_a f (i + 1) → eb_V mX3_ownerKnownTo (fun _ _ _ => True) 45 [.ref b, .int (eb_I (e : Int)), .int (eb_I (t : Int)), .int (eb_I least'), .int (eb_I fr'), .int (eb_I (i : Int)), x] [] (n, 0, 0) h (eb_R mX3_ownerKnownTo (eb_X (some (.int (eb_I (dp_a f (t + 1))))) n h)) := by
        intro least' fr' x h1 h2
        subst h2
        refine V_iinc eX3_ownerKnownTo_45 rfl rfl (eb_sS (eb_sS (eb_sS (eb_sS (eb_sS eb_s0))))) ?_
        refine V_goto (tgt := 9) eX3_ownerKnownTo_48 rfl ?_
        exact ih (i + 1) _ _ (by omega) (Or.inl h1)
      refine V_iload eX3_ownerKnownTo_9 rfl ?_
      refine V_iload_n eX3_ownerKnownTo_11 rfl rfl ?_
      refine V_icmp_gt (tgt := 51) eX3_ownerKnownTo_12 rfl (by omega) (fun c_12 => ?_) (fun c_12 => ?_)
      · exact absurd c_12 (by omega)
      · refine V_aload_n eX3_ownerKnownTo_15 rfl rfl ?_
        refine V_getf eX3_ownerKnownTo_16 H_this rfl ?_
        refine V_iload eX3_ownerKnownTo_19 rfl ?_
        refine V_iald eX3_ownerKnownTo_21 H_this_total (by omega) ?_
        rw [Int.toNat_natCast]
        refine V_aload_n eX3_ownerKnownTo_22 rfl rfl ?_
        refine V_iload eX3_ownerKnownTo_23 rfl ?_
        refine V_iload_n eX3_ownerKnownTo_25 rfl rfl ?_
        refine V_cvi eX3_ownerKnownTo_26 (c_X3_pr HL' hq hpl (by omega) he) H_this rfl rfl (Nat.le_of_ble_eq_true rfl) ⟨rfl, rfl⟩ ⟨Nat.zero_le _, Nat.zero_le _⟩ ?_
        refine V_iadd eX3_ownerKnownTo_29 ?_
        rw [hfe i (by omega)]
        refine V_istore eX3_ownerKnownTo_30 (Nat.le_of_ble_eq_true rfl) rfl (eb_sS (eb_sS (eb_sS (eb_sS (eb_sS (eb_sS eb_s0)))))) ?_
        refine V_iload eX3_ownerKnownTo_32 rfl ?_
        refine V_iload_n eX3_ownerKnownTo_34 rfl rfl ?_
        refine V_icmp_ge (tgt := 45) eX3_ownerKnownTo_35 rfl (by omega) (fun c_35 => ?_) (fun c_35 => ?_)
        · refine J _ _ _ ?_ ?_
          · rcases hl with q | ⟨q, q2⟩
            · rw [hm, if_neg (by omega), q]
            · omega
          · rw [ha, if_neg (fun w => by have := hiff.mpr w; omega)]
        · refine V_iload eX3_ownerKnownTo_38 rfl ?_
          refine V_istore_n eX3_ownerKnownTo_40 rfl (Nat.le_of_ble_eq_true rfl) rfl (eb_sS (eb_sS (eb_sS eb_s0))) ?_
          refine V_iload eX3_ownerKnownTo_41 rfl ?_
          refine V_istore eX3_ownerKnownTo_43 (Nat.le_of_ble_eq_true rfl) rfl (eb_sS (eb_sS (eb_sS (eb_sS eb_s0)))) ?_
          refine J _ _ _ ?_ ?_
          · rw [hm, if_pos (hiff.mp (by omega))]
          · rw [ha, if_pos (hiff.mp (by omega))]
  refine V_ldc (a := 2147483647) eX3_ownerKnownTo_0 wd_319 (by decide) ?_
  refine V_istore_n eX3_ownerKnownTo_2 rfl (Nat.le_of_ble_eq_true rfl) rfl (eb_sS (eb_sS (eb_sS eb_s0))) ?_
  refine V_iconst eX3_ownerKnownTo_3 ?_
  refine V_istore eX3_ownerKnownTo_4 (Nat.le_of_ble_eq_true rfl) rfl (eb_sS (eb_sS (eb_sS (eb_sS eb_s0)))) ?_
  refine V_iconst eX3_ownerKnownTo_6 ?_
  refine V_istore eX3_ownerKnownTo_7 (Nat.le_of_ble_eq_true rfl) rfl (eb_sS (eb_sS (eb_sS (eb_sS (eb_sS eb_s0))))) ?_
  exact loop (t + 1) 0 _ _ (by omega) (Or.inr ⟨rfl, rfl⟩)
theorem c_X3_runsAt {t : Nat} (HL : ly_at h b rt N me law fee fr lines bg pl to ow lb ro) (hq : lt_ok (N, wf, me, law, fee, fr)) (hpl : ∀ k, k ≤ N → pl k = lt_pl wf k) (hto : ∀ k, k ≤ N → to k = dp_t (lt_c (N, wf, me, law, fee, fr)) k) (ht : t ≤ N) :
    eb_T mX3_runsAt [.ref b, .int (eb_I (t : Int))] n h (eb_X (some (.int (eb_I (rn_F (fun e => lt_kn (lt_c (N, wf, me, law, fee, fr)) e t) (t + 1) (N - t)).1))) n h) := by
  refine eb_T.of (by decide +kernel) (Nat.le_of_ble_eq_true rfl) ?_
  show eb_V _ _ 0 [.ref b, .int (eb_I (t : Int)), eb_no, eb_no, eb_no, eb_no] [] (n, 0, 0) h _
  have HL' := HL
  obtain ⟨H_this, H_this_place, H_this_total, H_this_owner, H_this_lineBegin, H_this_row, H_this_roots⟩ := HL
  have hN : N ≤ 40 := hq.1.1
  generalize hg : (fun e => lt_kn (lt_c (N, wf, me, law, fee, fr)) e t) = g
  have hge : ∀ e, lt_kn (lt_c (N, wf, me, law, fee, fr)) e t = g e := fun e => by rw [← hg]
  have hgr : ∀ e, -1 ≤ g e ∧ g e ≤ 40 := fun e => by
    rw [← hge e]
    have := dp_a_r (dp_f (lt_c (N, wf, me, law, fee, fr)) e) (t + 1)
    unfold lt_kn
    omega
  have hwr : ∀ d, -1 ≤ (rn_F g (t + 1) d).2 ∧ (rn_F g (t + 1) d).2 ≤ 40 := fun d => by
    cases d with
    | zero => simp [rn_F]
    | succ d => simp only [rn_F]; exact hgr _
  have loop : ∀ (d i : Nat) (x5 : Value), i + d = N - t → eb_V mX3_runsAt (fun _ _ _ => True) 9 [.ref b, .int (eb_I (t : Int)), .int (eb_I (rn_F g (t + 1) i).1), .int (eb_I (rn_F g (t + 1) i).2), .int (eb_I ((t + 1 + i : Nat) : Int)), x5] [] (n, 0, 0) h (eb_R mX3_runsAt (eb_X (some (.int (eb_I (rn_F g (t + 1) (N - t)).1))) n h)) := by
    intro d
    induction d with
    | zero =>
      intro i x5 hi
      have : i = N - t := by omega
      subst this
      refine V_iload eX3_runsAt_9 rfl ?_
      refine V_aload_n eX3_runsAt_11 rfl rfl ?_
      refine V_getf eX3_runsAt_12 H_this rfl ?_
      refine V_icmp_gt (tgt := 45) eX3_runsAt_15 rfl (by omega) (fun c_15 => ?_) (fun c_15 => ?_)
      · refine V_iload_n eX3_runsAt_45 rfl rfl ?_
        exact V_iret eX3_runsAt_46 ⟨Nat.zero_le _, Nat.zero_le _⟩ rfl (rfl) (⟨rfl, rfl, rfl⟩)
      · exact absurd (by omega) c_15
    | succ d ih =>
      intro i x5 hi
      have hr := rn_F_r g (t + 1) i
      have hw := hwr i
      have hgi := hgr (t + 1 + i)
      have e1 : (rn_F g (t + 1) (i + 1)).1 = if g (t + 1 + i) = (rn_F g (t + 1) i).2 then (rn_F g (t + 1) i).1 else (rn_F g (t + 1) i).1 + 1 := rfl
      have e2 : (rn_F g (t + 1) (i + 1)).2 = g (t + 1 + i) := rfl
      have J : ∀ (x2 x3 : Int), x2 = (rn_F g (t + 1) (i + 1)).1 → eb_V mX3_runsAt (fun _ _ _ => True) 36 [.ref b, .int (eb_I (t : Int)), .int (eb_I x2), .int (eb_I x3), .int (eb_I ((t + 1 + i : Nat) : Int)), .int (eb_I (g (t + 1 + i)))] [] (n, 0, 0) h (eb_R mX3_runsAt (eb_X (some (.int (eb_I (rn_F g (t + 1) (N - t)).1))) n h)) := by
        intro x2 x3 h2
        subst h2
        refine V_iload eX3_runsAt_36 rfl ?_
        refine V_istore_n eX3_runsAt_38 rfl (Nat.le_of_ble_eq_true rfl) rfl (eb_sS (eb_sS (eb_sS eb_s0))) ?_
        refine V_iinc eX3_runsAt_39 rfl rfl (eb_sS (eb_sS (eb_sS (eb_sS eb_s0)))) ?_
        refine V_goto (tgt := 9) eX3_runsAt_42 rfl ?_
        exact ih (i + 1) _ (by omega)
      refine V_iload eX3_runsAt_9 rfl ?_
      refine V_aload_n eX3_runsAt_11 rfl rfl ?_
      refine V_getf eX3_runsAt_12 H_this rfl ?_
      refine V_icmp_gt (tgt := 45) eX3_runsAt_15 rfl (by omega) (fun c_15 => ?_) (fun c_15 => ?_)
      · exact absurd c_15 (by omega)
      · refine V_aload_n eX3_runsAt_18 rfl rfl ?_
        refine V_iload eX3_runsAt_19 rfl ?_
        refine V_iload_n eX3_runsAt_21 rfl rfl ?_
        refine V_cvi eX3_runsAt_22 (c_X3_ownerKnownTo HL' hq hpl hto (by omega) (by omega)) H_this rfl rfl (Nat.le_of_ble_eq_true rfl) ⟨rfl, rfl⟩ ⟨Nat.zero_le _, Nat.zero_le _⟩ ?_
        rw [hge]
        refine V_istore eX3_runsAt_25 (Nat.le_of_ble_eq_true rfl) rfl (eb_sS (eb_sS (eb_sS (eb_sS (eb_sS eb_s0))))) ?_
        refine V_iload eX3_runsAt_27 rfl ?_
        refine V_iload_n eX3_runsAt_29 rfl rfl ?_
        refine V_icmp_eq (tgt := 36) eX3_runsAt_30 rfl (by omega) (fun c_30 => ?_) (fun c_30 => ?_)
        · exact J _ _ (by rw [e1, if_pos c_30])
        · refine V_iinc eX3_runsAt_33 rfl rfl (eb_sS (eb_sS eb_s0)) ?_
          exact J _ _ (by rw [e1, if_neg c_30])
  refine V_iconst eX3_runsAt_0 ?_
  refine V_istore_n eX3_runsAt_1 rfl (Nat.le_of_ble_eq_true rfl) rfl (eb_sS (eb_sS eb_s0)) ?_
  refine V_iconst eX3_runsAt_2 ?_
  refine V_istore_n eX3_runsAt_3 rfl (Nat.le_of_ble_eq_true rfl) rfl (eb_sS (eb_sS (eb_sS eb_s0))) ?_
  refine V_iload_n eX3_runsAt_4 rfl rfl ?_
  refine V_iconst eX3_runsAt_5 ?_
  refine V_iadd eX3_runsAt_6 ?_
  refine V_istore eX3_runsAt_7 (Nat.le_of_ble_eq_true rfl) rfl (eb_sS (eb_sS (eb_sS (eb_sS eb_s0)))) ?_
  exact loop (N - t) 0 _ (by omega)
end LYK
end
section
/-! the least with so many lines -/
def wl_R (c : Nat → Nat → Int) : Nat → Nat → Int
  | 0, e => if e = 0 then 0 else 2000000000
  | t + 1, j => dp_m (fun i => if wl_R c t i = 2000000000 then 2000000000 else wl_R c t i + c i j) j
theorem dp_m_le {f : Nat → Int} : ∀ (n j : Nat), j < n → dp_m f n ≤ f j := by
  intro n
  induction n with
  | zero => intro j hj; omega
  | succ n ih =>
    intro j hj
    simp only [dp_m]
    rcases Nat.lt_or_ge j n with z | z
    · have := ih j z
      split <;> omega
    · have : j = n := by omega
      subst this
      split <;> omega
theorem dp_m_top (f : Nat → Int) (n : Nat) : dp_m f n ≤ 2000000000 := by
  induction n with
  | zero => exact Int.le_refl _
  | succ n ih => simp only [dp_m]; split <;> omega
theorem dp_m_att {f : Nat → Int} : ∀ n : Nat, dp_m f n < 2000000000 → ∃ a, a < n ∧ f a = dp_m f n := by
  intro n
  induction n with
  | zero => intro q; simp [dp_m] at q
  | succ n ih =>
    intro q
    simp only [dp_m] at q ⊢
    by_cases c : f n < dp_m f n
    · rw [if_pos c]; exact ⟨n, by omega, rfl⟩
    · rw [if_neg c] at q ⊢
      obtain ⟨a, a1, a2⟩ := ih q
      exact ⟨a, by omega, a2⟩
theorem dp_m_none {f : Nat → Int} {n : Nat} (h : ∀ i, i < n → 2000000000 ≤ f i) : dp_m f n = 2000000000 := by
  have h1 := dp_m_top f n
  rcases Int.lt_or_le (dp_m f n) 2000000000 with q | q
  · obtain ⟨a, a1, a2⟩ := dp_m_att n q
    have := h a a1
    omega
  · omega
theorem dp_m_min {f : Nat → Int} {n : Nat} {v : Int} (hv : v < 2000000000) (h1 : ∃ i, i < n ∧ f i = v) (h2 : ∀ i, i < n → v ≤ f i) : dp_m f n = v := by
  obtain ⟨i, hi, he⟩ := h1
  have a := dp_m_le (f := f) n i hi
  obtain ⟨j, hj, hj2⟩ := dp_m_att (f := f) n (by omega)
  have := h2 j hj
  omega
/-- what is reached by t lines, and what not -/
theorem wl_facts {c : Nat → Nat → Int} {N : Nat} (hc : dp_cok c N) : ∀ (t : Nat), t ≤ 40 → ∀ e, e ≤ N → ((e < t ∨ (t = 0 ∧ 0 < e)) → wl_R c t e = 2000000000) ∧ ((t ≤ e ∧ (t = 0 → e = 0)) → 0 ≤ wl_R c t e ∧ wl_R c t e ≤ 13690099 * (t : Int)) := by
  intro t
  induction t with
  | zero =>
    intro _ e he
    simp only [wl_R]
    refine ⟨fun h => ?_, fun h => ?_⟩
    · rw [if_neg (by omega)]
    · rw [if_pos (h.2 trivial)]; omega
  | succ t ih =>
    intro ht e he
    simp only [wl_R]
    refine ⟨fun h => ?_, fun h => ?_⟩
    · refine dp_m_none (fun i hi => ?_)
      rw [if_pos ((ih (by omega) i (by omega)).1 (by omega))]
      exact Int.le_refl _
    · have w := (ih (by omega) t (by omega))
      have key : ∃ k, k < e ∧ (t ≤ k ∧ (t = 0 → k = 0)) := ⟨t, by omega, by omega, fun q => q⟩
      obtain ⟨k, hk, hk2⟩ := key
      have b1 := (ih (by omega) k (by omega)).2 hk2
      have b2 := hc k e hk he
      have e1 := dp_m_le (f := fun i => if wl_R c t i = 2000000000 then 2000000000 else wl_R c t i + c i e) e k hk
      rw [if_neg (by omega)] at e1
      obtain ⟨a, a1, a2⟩ := dp_m_att (f := fun i => if wl_R c t i = 2000000000 then 2000000000 else wl_R c t i + c i e) e (by omega)
      refine ⟨?_, by omega⟩
      rw [← a2]
      split
      · omega
      · rename_i q
        have u := hc a e a1 he
        have v := (ih (by omega) a (by omega))
        rcases Nat.lt_or_ge a t with z | z
        · exact absurd (v.1 (Or.inl z)) q
        · by_cases y : t = 0 → a = 0
          · have := v.2 ⟨z, y⟩
            omega
          · exact absurd (v.1 (Or.inr (by omega))) q
theorem wl_next {c : Nat → Nat → Int} {N : Nat} (hc : dp_cok c N) {t e : Nat} (ht : t < 40) (he : e ≤ N) (hte : t < e) : (∃ i, t ≤ i ∧ i < e ∧ (t = 0 → i = 0) ∧ wl_R c t i + c i e = wl_R c (t + 1) e) ∧ ∀ i, t ≤ i → i < e → (t = 0 → i = 0) → wl_R c (t + 1) e ≤ wl_R c t i + c i e := by
  have w := (wl_facts hc (t + 1) (by omega) e he).2 ⟨by omega, fun q => absurd q (by omega)⟩
  have hval : wl_R c (t + 1) e = dp_m (fun i => if wl_R c t i = 2000000000 then 2000000000 else wl_R c t i + c i e) e := rfl
  refine ⟨?_, fun i h1 h2 h3 => ?_⟩
  · obtain ⟨a, a1, a2⟩ := dp_m_att (f := fun i => if wl_R c t i = 2000000000 then 2000000000 else wl_R c t i + c i e) e (by rw [← hval]; omega)
    rw [← hval] at a2
    have v := (wl_facts hc t (by omega) a (by omega))
    by_cases q : wl_R c t a = 2000000000
    · rw [if_pos q] at a2
      omega
    · rw [if_neg q] at a2
      refine ⟨a, ?_, a1, ?_, a2⟩
      · rcases Nat.lt_or_ge a t with z | z
        · exact absurd (v.1 (Or.inl z)) q
        · exact z
      · intro z
        rcases Nat.eq_zero_or_pos a with y | y
        · exact y
        · exact absurd (v.1 (Or.inr ⟨z, y⟩)) q
  · have a := dp_m_le (f := fun i => if wl_R c t i = 2000000000 then 2000000000 else wl_R c t i + c i e) e i h2
    rw [← hval] at a
    have v := (wl_facts hc t (by omega) i (by omega)).2 ⟨h1, h3⟩
    rw [if_neg (by omega)] at a
    exact a
section LYW
variable {n : Nat} {h : eb_H} {b rt N bg : Nat} {me law fee fr lines : Int} {pl to ow lb ro : Nat → Int} {wf : Nat → Int}
theorem c_X3_leastWithOneMore {e t : Nat} {v : Int} (HL : ly_at h b rt N me law fee fr lines bg pl to ow lb ro) (hq : lt_ok (N, wf, me, law, fee, fr)) (hpl : ∀ k, k ≤ N → pl k = lt_pl wf k) (he : e ≤ N) (ht : t < e)
    (hro : ∀ i, t ≤ i → i < e → (t = 0 → i = 0) → 0 ≤ ro i ∧ ro i ≤ 600000000) (h1 : ∃ i, t ≤ i ∧ i < e ∧ (t = 0 → i = 0) ∧ ro i + lt_c (N, wf, me, law, fee, fr) i e = v) (h2 : ∀ i, t ≤ i → i < e → (t = 0 → i = 0) → v ≤ ro i + lt_c (N, wf, me, law, fee, fr) i e) :
    eb_T mX3_leastWithOneMore [.ref b, .int (eb_I (e : Int)), .int (eb_I (t : Int))] n h (eb_X (some (.int (eb_I v))) n h) := by
  refine eb_T.of (by decide +kernel) (Nat.le_of_ble_eq_true rfl) ?_
  show eb_V _ _ 0 [.ref b, .int (eb_I (e : Int)), .int (eb_I (t : Int)), eb_no, eb_no, eb_no] [] (n, 0, 0) h _
  have HL' := HL
  obtain ⟨H_this, H_this_place, H_this_total, H_this_owner, H_this_lineBegin, H_this_row, H_this_roots⟩ := HL
  have hN : N ≤ 40 := hq.1.1
  have hco := lt_cok hq
  have loop : ∀ (hi : Nat) (d i : Nat) (least : Int), hi < e → (t = 0 → hi = 0) → (t ≠ 0 → hi = e - 1) → t ≤ i → i + d = hi + 1 → (0 ≤ least ∧ least ≤ 2147483647) → (∀ j, t ≤ j → j < i → least ≤ ro j + lt_c (N, wf, me, law, fee, fr) j e) → ((i = t ∧ least = 2147483647) ∨ ∃ j, t ≤ j ∧ j < i ∧ ro j + lt_c (N, wf, me, law, fee, fr) j e = least) → eb_V mX3_leastWithOneMore (fun _ _ _ => True) 19 [.ref b, .int (eb_I (e : Int)), .int (eb_I (t : Int)), .int (eb_I least), .int (eb_I (hi : Int)), .int (eb_I (i : Int))] [] (n, 0, 0) h (eb_R mX3_leastWithOneMore (eb_X (some (.int (eb_I v))) n h)) := by
    intro hi d
    induction d with
    | zero =>
      intro i least hh1 hh2 hh3 hti hid hlr g1 g2
      have : least = v := by
        obtain ⟨a, a1, a2, a3, a4⟩ := h1
        have x0 : a < i := by
          rcases Nat.eq_zero_or_pos t with z | z
          · have := a3 z
            omega
          · have := hh3 (by omega)
            omega
        have x1 := g1 a a1 x0
        rcases g2 with ⟨q1, q2⟩ | ⟨j, j1, j2, j3⟩
        · have := hro a a1 a2 a3
          have := hco a e a2 he
          omega
        · have x2 := h2 j j1 (by omega) (fun z => by have := hh2 z; omega)
          omega
      subst this
      refine V_iload eX3_leastWithOneMore_19 rfl ?_
      refine V_iload eX3_leastWithOneMore_21 rfl ?_
      refine V_icmp_gt (tgt := 52) eX3_leastWithOneMore_23 rfl (by omega) (fun c_23 => ?_) (fun c_23 => ?_)
      · refine V_iload_n eX3_leastWithOneMore_52 rfl rfl ?_
        exact V_iret eX3_leastWithOneMore_53 ⟨Nat.zero_le _, Nat.zero_le _⟩ rfl (rfl) (⟨rfl, rfl, rfl⟩)
      · exact absurd (by omega) c_23
    | succ d ih =>
      intro i least hh1 hh2 hh3 hti hid hlr g1 g2
      have hie : i < e := by omega
      have hi0 : t = 0 → i = 0 := fun z => by have := hh2 z; omega
      have r1 := hro i hti hie hi0
      have r2 := hco i e hie he
      refine V_iload eX3_leastWithOneMore_19 rfl ?_
      refine V_iload eX3_leastWithOneMore_21 rfl ?_
      refine V_icmp_gt (tgt := 52) eX3_leastWithOneMore_23 rfl (by omega) (fun c_23 => ?_) (fun c_23 => ?_)
      · exact absurd c_23 (by omega)
      · refine V_iload_n eX3_leastWithOneMore_26 rfl rfl ?_
        refine V_aload_n eX3_leastWithOneMore_27 rfl rfl ?_
        refine V_getf eX3_leastWithOneMore_28 H_this rfl ?_
        refine V_iload eX3_leastWithOneMore_31 rfl ?_
        refine V_iald eX3_leastWithOneMore_33 H_this_row (by omega) ?_
        rw [Int.toNat_natCast]
        refine V_aload_n eX3_leastWithOneMore_34 rfl rfl ?_
        refine V_iload eX3_leastWithOneMore_35 rfl ?_
        refine V_iload_n eX3_leastWithOneMore_37 rfl rfl ?_
        refine V_cvi eX3_leastWithOneMore_38 (c_X3_pr HL' hq hpl hie he) H_this rfl rfl (Nat.le_of_ble_eq_true rfl) ⟨rfl, rfl⟩ ⟨Nat.zero_le _, Nat.zero_le _⟩ ?_
        refine V_iadd eX3_leastWithOneMore_41 ?_
        refine V_mmin eX3_leastWithOneMore_42 (by omega) (Nat.le_of_ble_eq_true rfl) ⟨Nat.zero_le _, Nat.zero_le _⟩ ?_
        refine V_istore_n eX3_leastWithOneMore_45 rfl (Nat.le_of_ble_eq_true rfl) rfl (eb_sS (eb_sS (eb_sS eb_s0))) ?_
        refine V_iinc eX3_leastWithOneMore_46 rfl rfl (eb_sS (eb_sS (eb_sS (eb_sS (eb_sS eb_s0))))) ?_
        refine V_goto (tgt := 19) eX3_leastWithOneMore_49 rfl ?_
        refine ih (i + 1) _ hh1 hh2 hh3 (by omega) (by omega) (by omega) (fun j j1 j2 => ?_) (Or.inr ?_)
        · rcases Nat.lt_or_ge j i with z | z
          · have := g1 j j1 z
            omega
          · have : j = i := by omega
            subst this
            omega
        · rcases Int.lt_or_le (ro i + lt_c (N, wf, me, law, fee, fr) i e) least with z | z
          · exact ⟨i, hti, by omega, by omega⟩
          · rcases g2 with ⟨q1, q2⟩ | ⟨j, j1, j2, j3⟩
            · omega
            · exact ⟨j, j1, by omega, by omega⟩
  by_cases z : t = 0
  · subst z
    refine V_ldc (a := 2147483647) eX3_leastWithOneMore_0 wd_319 (by decide) ?_
    refine V_istore_n eX3_leastWithOneMore_2 rfl (Nat.le_of_ble_eq_true rfl) rfl (eb_sS (eb_sS (eb_sS eb_s0))) ?_
    refine V_iload_n eX3_leastWithOneMore_3 rfl rfl ?_
    refine V_if_ne (tgt := 11) eX3_leastWithOneMore_4 rfl (by omega) (fun c_4 => ?_) (fun c_4 => ?_)
    · exact absurd rfl c_4
    · refine V_iconst eX3_leastWithOneMore_7 ?_
      refine V_goto (tgt := 14) eX3_leastWithOneMore_8 rfl ?_
      refine V_istore eX3_leastWithOneMore_14 (Nat.le_of_ble_eq_true rfl) rfl (eb_sS (eb_sS (eb_sS (eb_sS eb_s0)))) ?_
      refine V_iload_n eX3_leastWithOneMore_16 rfl rfl ?_
      refine V_istore eX3_leastWithOneMore_17 (Nat.le_of_ble_eq_true rfl) rfl (eb_sS (eb_sS (eb_sS (eb_sS (eb_sS eb_s0))))) ?_
      exact loop 0 1 0 _ ht (fun _ => rfl) (fun q => absurd rfl q) (Nat.le_refl _) (by omega) (by omega) (fun j j1 j2 => absurd j2 (by omega)) (Or.inl ⟨rfl, rfl⟩)
  · refine V_ldc (a := 2147483647) eX3_leastWithOneMore_0 wd_319 (by decide) ?_
    refine V_istore_n eX3_leastWithOneMore_2 rfl (Nat.le_of_ble_eq_true rfl) rfl (eb_sS (eb_sS (eb_sS eb_s0))) ?_
    refine V_iload_n eX3_leastWithOneMore_3 rfl rfl ?_
    refine V_if_ne (tgt := 11) eX3_leastWithOneMore_4 rfl (by omega) (fun c_4 => ?_) (fun c_4 => ?_)
    · refine V_iload_n eX3_leastWithOneMore_11 rfl rfl ?_
      refine V_iconst eX3_leastWithOneMore_12 ?_
      refine V_isub eX3_leastWithOneMore_13 ?_
      refine V_eqI (b := ((e - 1 : Nat) : Int)) (by omega) ?_
      refine V_istore eX3_leastWithOneMore_14 (Nat.le_of_ble_eq_true rfl) rfl (eb_sS (eb_sS (eb_sS (eb_sS eb_s0)))) ?_
      refine V_iload_n eX3_leastWithOneMore_16 rfl rfl ?_
      refine V_istore eX3_leastWithOneMore_17 (Nat.le_of_ble_eq_true rfl) rfl (eb_sS (eb_sS (eb_sS (eb_sS (eb_sS eb_s0))))) ?_
      exact loop (e - 1) (e - t) t _ (by omega) (fun q => absurd q z) (fun _ => rfl) (Nat.le_refl _) (by omega) (by omega) (fun j j1 j2 => absurd j2 (by omega)) (Or.inl ⟨rfl, rfl⟩)
    · exact absurd c_4 (by omega)
theorem c_X3_leastWithLines {k : Nat} (HL : ly_at h b rt N me law fee fr lines bg pl to ow lb ro) (hrt : rt < b) (hq : lt_ok (N, wf, me, law, fee, fr)) (hpl : ∀ k, k ≤ N → pl k = lt_pl wf k) (hk : 1 ≤ k ∧ k ≤ 40) :
    eb_T mX3_leastWithLines [.ref b, .int (eb_I (k : Int))] n h (eb_G (some (.int (eb_I (if N < k then -1 else wl_R (lt_c (N, wf, me, law, fee, fr)) k N)))) n (fun h' => (∃ ro', ly_at h' b rt N me law fee fr lines bg pl to ow lb ro') ∧ ly_fr h h' b)) := by
  refine eb_T.of (by decide +kernel) (Nat.le_of_ble_eq_true rfl) ?_
  show eb_V _ _ 0 [.ref b, .int (eb_I (k : Int)), eb_no, eb_no] [] (n, 0, 0) h _
  have hN : N ≤ 40 := hq.1.1
  have hco := lt_cok hq
  generalize hcc : lt_c (N, wf, me, law, fee, fr) = c at hco ⊢
  generalize hG : (fun h' => (∃ ro', ly_at h' b rt N me law fee fr lines bg pl to ow lb ro') ∧ ly_fr h h' b) = G
  by_cases hkN : N < k
  · rw [if_pos hkN]
    have HL' := HL
    obtain ⟨H_this, H_this_place, H_this_total, H_this_owner, H_this_lineBegin, H_this_row, H_this_roots⟩ := HL
    refine V_iload_n eX3_leastWithLines_0 rfl rfl ?_
    refine V_aload_n eX3_leastWithLines_1 rfl rfl ?_
    refine V_getf eX3_leastWithLines_2 H_this rfl ?_
    refine V_icmp_le (tgt := 10) eX3_leastWithLines_5 rfl (by omega) (fun c_5 => ?_) (fun c_5 => ?_)
    · exact absurd c_5 (by omega)
    · refine V_iconst eX3_leastWithLines_8 ?_
      exact V_iret eX3_leastWithLines_9 ⟨Nat.zero_le _, Nat.zero_le _⟩ rfl (rfl) (⟨rfl, rfl, by rw [← hG]; exact ⟨⟨ro, HL'⟩, ly_fr.rf⟩⟩)
  · rw [if_neg hkN]
    have outer : ∀ (d t : Nat) (h1 : eb_H) (ro1 : Nat → Int) (x3 : Value), t + d = k → ly_at h1 b rt N me law fee fr lines bg pl to ow lb ro1 → ly_fr h h1 b → (∀ i, t ≤ i → i ≤ N → (t = 0 → i = 0) → ro1 i = wl_R c t i) → eb_V mX3_leastWithLines (fun _ _ _ => True) 19 [.ref b, .int (eb_I (k : Int)), .int (eb_I ((t + 1 : Nat) : Int)), x3] [] (n, 0, 0) h1 (eb_R mX3_leastWithLines (eb_G (some (.int (eb_I (wl_R c k N)))) n G)) := by
      intro d
      induction d with
      | zero =>
        intro t h1 ro1 x3 htd HL1 hfr g
        have : t = k := by omega
        subst this
        have HL1' := HL1
        have gN := g N (by omega) (Nat.le_refl _) (by omega)
        obtain ⟨H_this, H_this_place, H_this_total, H_this_owner, H_this_lineBegin, H_this_row, H_this_roots⟩ := HL1
        refine V_iload_n eX3_leastWithLines_19 rfl rfl ?_
        refine V_iload_n eX3_leastWithLines_20 rfl rfl ?_
        refine V_icmp_gt (tgt := 60) eX3_leastWithLines_21 rfl (by omega) (fun c_21 => ?_) (fun c_21 => ?_)
        · refine V_aload_n eX3_leastWithLines_60 rfl rfl ?_
          refine V_getf eX3_leastWithLines_61 H_this rfl ?_
          refine V_aload_n eX3_leastWithLines_64 rfl rfl ?_
          refine V_getf eX3_leastWithLines_65 H_this rfl ?_
          refine V_iald eX3_leastWithLines_68 H_this_row (by omega) ?_
          rw [Int.toNat_natCast, gN]
          exact V_iret eX3_leastWithLines_69 ⟨Nat.zero_le _, Nat.zero_le _⟩ rfl (rfl) (⟨rfl, rfl, by rw [← hG]; exact ⟨⟨ro1, HL1'⟩, hfr⟩⟩)
        · exact absurd (by omega) c_21
      | succ d ih =>
        intro t h1 ro1 x3 htd HL1 hfr g
        have inner : ∀ (m : Nat) (h2 : eb_H) (ro2 : Nat → Int), t + m ≤ N → ly_at h2 b rt N me law fee fr lines bg pl to ow lb ro2 → ly_fr h h2 b → (∀ i, i ≤ t + m → ro2 i = ro1 i) → (∀ i, t + m < i → i ≤ N → ro2 i = wl_R c (t + 1) i) → eb_V mX3_leastWithLines (fun _ _ _ => True) 29 [.ref b, .int (eb_I (k : Int)), .int (eb_I ((t + 1 : Nat) : Int)), .int (eb_I ((t + m : Nat) : Int))] [] (n, 0, 0) h2 (eb_R mX3_leastWithLines (eb_G (some (.int (eb_I (wl_R c k N)))) n G)) := by
          intro m
          induction m with
          | zero =>
            intro h2 ro2 hm HL2 hfr2 u1 u2
            have HL2' := HL2
            obtain ⟨H_this, H_this_place, H_this_total, H_this_owner, H_this_lineBegin, H_this_row, H_this_roots⟩ := HL2
            refine V_iload_n eX3_leastWithLines_29 rfl rfl ?_
            refine V_iload_n eX3_leastWithLines_30 rfl rfl ?_
            refine V_icmp_lt (tgt := 54) eX3_leastWithLines_31 rfl (by omega) (fun c_31 => ?_) (fun c_31 => ?_)
            · refine V_iinc eX3_leastWithLines_54 rfl rfl (eb_sS (eb_sS eb_s0)) ?_
              refine V_goto (tgt := 19) eX3_leastWithLines_57 rfl ?_
              exact ih (t + 1) _ _ _ (by omega) HL2' hfr2 (fun i i1 i2 i3 => u2 i (by omega) i2)
            · exact absurd (by omega) c_31
          | succ m im =>
            intro h2 ro2 hm HL2 hfr2 u1 u2
            have HL2' := HL2
            obtain ⟨w1, w2⟩ := wl_next hco (t := t) (e := t + (m + 1)) (by omega) hm (by omega)
            have hre : ∀ i, t ≤ i → i < t + (m + 1) → (t = 0 → i = 0) → ro2 i = wl_R c t i := fun i i1 i2 i3 => by rw [u1 i (by omega), g i i1 (by omega) i3]
            have T := c_X3_leastWithOneMore (n := n) (e := t + (m + 1)) (t := t) (v := wl_R c (t + 1) (t + (m + 1))) HL2' hq hpl hm (by omega) (fun i i1 i2 i3 => by
              rw [hre i i1 i2 i3]
              have := (wl_facts hco t (by omega) i (by omega)).2 ⟨i1, i3⟩
              omega) (by
              obtain ⟨i, i1, i2, i3, i4⟩ := w1
              exact ⟨i, i1, i2, i3, by rw [hre i i1 i2 i3, hcc]; exact i4⟩) (fun i i1 i2 i3 => by rw [hre i i1 i2 i3, hcc]; exact w2 i i1 i2 i3)
            have HL3 := ly_u5 (f := eb_set ro2 (((t + (m + 1) : Nat) : Int)).toNat (wl_R c (t + 1) (t + (m + 1)))) HL2' hrt
            have hfr3 := hfr2.up (a := b + 5) (e := eb_ia 41 (eb_set ro2 (((t + (m + 1) : Nat) : Int)).toNat (wl_R c (t + 1) (t + (m + 1))))) (by omega)
            have nxt := im _ _ (by omega) HL3 hfr3 (fun i hi => by rw [Int.toNat_natCast]; unfold eb_set; rw [if_neg (by omega)]; exact u1 i (by omega)) (fun i i1 i2 => by
              rw [Int.toNat_natCast]
              unfold eb_set
              by_cases y : i = t + (m + 1)
              · rw [if_pos y, y]
              · rw [if_neg y]
                exact u2 i (by omega) i2)
            obtain ⟨H_this, H_this_place, H_this_total, H_this_owner, H_this_lineBegin, H_this_row, H_this_roots⟩ := HL2
            refine V_iload_n eX3_leastWithLines_29 rfl rfl ?_
            refine V_iload_n eX3_leastWithLines_30 rfl rfl ?_
            refine V_icmp_lt (tgt := 54) eX3_leastWithLines_31 rfl (by omega) (fun c_31 => ?_) (fun c_31 => ?_)
            · exact absurd c_31 (by omega)
            · refine V_aload_n eX3_leastWithLines_34 rfl rfl ?_
              refine V_getf eX3_leastWithLines_35 H_this rfl ?_
              refine V_iload_n eX3_leastWithLines_38 rfl rfl ?_
              refine V_aload_n eX3_leastWithLines_39 rfl rfl ?_
              refine V_iload_n eX3_leastWithLines_40 rfl rfl ?_
              refine V_iload_n eX3_leastWithLines_41 rfl rfl ?_
              refine V_iconst eX3_leastWithLines_42 ?_
              refine V_isub eX3_leastWithLines_43 ?_
              refine V_eqI (b := (t : Int)) (by omega) ?_
              refine V_cvi eX3_leastWithLines_44 (T) H_this rfl rfl (Nat.le_of_ble_eq_true rfl) ⟨rfl, rfl⟩ ⟨Nat.zero_le _, Nat.zero_le _⟩ ?_
              refine V_iast eX3_leastWithLines_47 H_this_row (by omega) ?_
              refine V_iinc eX3_leastWithLines_48 rfl rfl (eb_sS (eb_sS (eb_sS eb_s0))) ?_
              refine V_goto (tgt := 29) eX3_leastWithLines_51 rfl ?_
              rw [show ((t + (m + 1) : Nat) : Int) + -1 = ((t + m : Nat) : Int) by omega]
              exact nxt
        have HL1' := HL1
        obtain ⟨H_this, H_this_place, H_this_total, H_this_owner, H_this_lineBegin, H_this_row, H_this_roots⟩ := HL1
        refine V_iload_n eX3_leastWithLines_19 rfl rfl ?_
        refine V_iload_n eX3_leastWithLines_20 rfl rfl ?_
        refine V_icmp_gt (tgt := 60) eX3_leastWithLines_21 rfl (by omega) (fun c_21 => ?_) (fun c_21 => ?_)
        · exact absurd c_21 (by omega)
        · refine V_aload_n eX3_leastWithLines_24 rfl rfl ?_
          refine V_getf eX3_leastWithLines_25 H_this rfl ?_
          refine V_istore_n eX3_leastWithLines_28 rfl (Nat.le_of_ble_eq_true rfl) rfl (eb_sS (eb_sS (eb_sS eb_s0))) ?_
          rw [show (N : Int) = ((t + (N - t) : Nat) : Int) by omega]
          exact inner (N - t) _ _ (by omega) HL1' hfr (fun i _ => rfl) (fun i i1 i2 => absurd i2 (by omega))
    have HL3 := ly_u5 (f := eb_set ro 0 0) HL hrt
    obtain ⟨H_this, H_this_place, H_this_total, H_this_owner, H_this_lineBegin, H_this_row, H_this_roots⟩ := HL
    refine V_iload_n eX3_leastWithLines_0 rfl rfl ?_
    refine V_aload_n eX3_leastWithLines_1 rfl rfl ?_
    refine V_getf eX3_leastWithLines_2 H_this rfl ?_
    refine V_icmp_le (tgt := 10) eX3_leastWithLines_5 rfl (by omega) (fun c_5 => ?_) (fun c_5 => ?_)
    · refine V_aload_n eX3_leastWithLines_10 rfl rfl ?_
      refine V_getf eX3_leastWithLines_11 H_this rfl ?_
      refine V_iconst eX3_leastWithLines_14 ?_
      refine V_iconst eX3_leastWithLines_15 ?_
      refine V_iast eX3_leastWithLines_16 H_this_row (by omega) ?_
      refine V_iconst eX3_leastWithLines_17 ?_
      refine V_istore_n eX3_leastWithLines_18 rfl (Nat.le_of_ble_eq_true rfl) rfl (eb_sS (eb_sS eb_s0)) ?_
      refine outer k 0 _ _ _ (by omega) HL3 (ly_fr.rf.up (by omega)) (fun i i1 i2 i3 => ?_)
      have : i = 0 := i3 rfl
      subst this
      rfl
    · exact absurd (by omega) c_5
end LYW
end
