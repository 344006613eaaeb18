section
/-- a private method of a class that the tables say can be made, by its rows of tables_1 -/
def lw_okq (q : MethodName × Nat) : Prop := (q.1.cls ≠ "java/lang/invoke/MethodHandle" ∧ q.1.cls ≠ "java/lang/invoke/VarHandle") ∧ Cond.instantiable q.1.cls q.2 ∈ tables_1 ∧ Cond.privateMethod q.1 ∈ tables_1 ∧ Cond.instanceMethod q.1 ∈ tables_1
theorem lw_p0 : lw_okq (⟨"EvenBreaks", "layAnew", "()V"⟩, 9) := ⟨⟨by decide +kernel, by decide +kernel⟩, List.mem_of_getElem? (i := 15) (by decide +kernel), List.mem_of_getElem? (i := 241) (by decide +kernel), List.mem_of_getElem? (i := 242) (by decide +kernel)⟩
theorem lw_p1 : lw_okq (⟨"EvenBreaks$Layout", "settle", "(I)V"⟩, 13) := ⟨⟨by decide +kernel, by decide +kernel⟩, List.mem_of_getElem? (i := 141) (by decide +kernel), List.mem_of_getElem? (i := 265) (by decide +kernel), List.mem_of_getElem? (i := 266) (by decide +kernel)⟩
theorem lw_p2 : lw_okq (⟨"EvenBreaks$Layout", "priceOf", "(II)I"⟩, 13) := ⟨⟨by decide +kernel, by decide +kernel⟩, List.mem_of_getElem? (i := 141) (by decide +kernel), List.mem_of_getElem? (i := 274) (by decide +kernel), List.mem_of_getElem? (i := 275) (by decide +kernel)⟩
theorem lw_p3 : lw_okq (⟨"EvenBreaks$Layout", "tightPrice", "(I)I"⟩, 13) := ⟨⟨by decide +kernel, by decide +kernel⟩, List.mem_of_getElem? (i := 141) (by decide +kernel), List.mem_of_getElem? (i := 278) (by decide +kernel), List.mem_of_getElem? (i := 279) (by decide +kernel)⟩
theorem lw_p4 : lw_okq (⟨"EvenBreaks$Layout", "loosePrice", "(I)I"⟩, 13) := ⟨⟨by decide +kernel, by decide +kernel⟩, List.mem_of_getElem? (i := 141) (by decide +kernel), List.mem_of_getElem? (i := 282) (by decide +kernel), List.mem_of_getElem? (i := 283) (by decide +kernel)⟩
theorem lw_p5 : lw_okq (⟨"EvenBreaks$Layout", "layLines", "()V"⟩, 13) := ⟨⟨by decide +kernel, by decide +kernel⟩, List.mem_of_getElem? (i := 141) (by decide +kernel), List.mem_of_getElem? (i := 286) (by decide +kernel), List.mem_of_getElem? (i := 287) (by decide +kernel)⟩
theorem lw_p6 : lw_okq (⟨"EvenBreaks$Layout", "isBegin", "(I)Z"⟩, 13) := ⟨⟨by decide +kernel, by decide +kernel⟩, List.mem_of_getElem? (i := 141) (by decide +kernel), List.mem_of_getElem? (i := 290) (by decide +kernel), List.mem_of_getElem? (i := 291) (by decide +kernel)⟩
theorem lw_p7 : lw_okq (⟨"EvenBreaks$Typed", "faultOf", "(II)I"⟩, 5) := ⟨⟨by decide +kernel, by decide +kernel⟩, List.mem_of_getElem? (i := 61) (by decide +kernel), List.mem_of_getElem? (i := 340) (by decide +kernel), List.mem_of_getElem? (i := 341) (by decide +kernel)⟩
theorem lw_p8 : lw_okq (⟨"EvenBreaks$Typed", "addToWord", "(II)V"⟩, 5) := ⟨⟨by decide +kernel, by decide +kernel⟩, List.mem_of_getElem? (i := 61) (by decide +kernel), List.mem_of_getElem? (i := 344) (by decide +kernel), List.mem_of_getElem? (i := 345) (by decide +kernel)⟩
theorem lw_p9 : lw_okq (⟨"EvenBreaks$Layout", "firstFall", "(III)I"⟩, 13) := ⟨⟨by decide +kernel, by decide +kernel⟩, List.mem_of_getElem? (i := 141) (by decide +kernel), List.mem_of_getElem? (i := 386) (by decide +kernel), List.mem_of_getElem? (i := 387) (by decide +kernel)⟩
theorem lw_p10 : lw_okq (⟨"EvenBreaks$Layout", "hasGapAt", "(II)Z"⟩, 13) := ⟨⟨by decide +kernel, by decide +kernel⟩, List.mem_of_getElem? (i := 141) (by decide +kernel), List.mem_of_getElem? (i := 406) (by decide +kernel), List.mem_of_getElem? (i := 407) (by decide +kernel)⟩
theorem lw_p11 : lw_okq (⟨"EvenBreaks", "surveyed", "()LEvenBreaks$Survey;"⟩, 9) := ⟨⟨by decide +kernel, by decide +kernel⟩, List.mem_of_getElem? (i := 15) (by decide +kernel), List.mem_of_getElem? (i := 410) (by decide +kernel), List.mem_of_getElem? (i := 411) (by decide +kernel)⟩
theorem lw_p12 : lw_okq (⟨"EvenBreaks$Survey", "fits", "(I)Z"⟩, 6) := ⟨⟨by decide +kernel, by decide +kernel⟩, List.mem_of_getElem? (i := 193) (by decide +kernel), List.mem_of_getElem? (i := 424) (by decide +kernel), List.mem_of_getElem? (i := 425) (by decide +kernel)⟩
theorem lw_p13 : lw_okq (⟨"EvenBreaks$Survey", "fittingThatBegin", "(I)I"⟩, 6) := ⟨⟨by decide +kernel, by decide +kernel⟩, List.mem_of_getElem? (i := 193) (by decide +kernel), List.mem_of_getElem? (i := 441) (by decide +kernel), List.mem_of_getElem? (i := 442) (by decide +kernel)⟩
theorem lw_p14 : lw_okq (⟨"EvenBreaks", "grows", "(I)I"⟩, 9) := ⟨⟨by decide +kernel, by decide +kernel⟩, List.mem_of_getElem? (i := 15) (by decide +kernel), List.mem_of_getElem? (i := 468) (by decide +kernel), List.mem_of_getElem? (i := 469) (by decide +kernel)⟩
theorem lw_p15 : lw_okq (⟨"EvenBreaks", "readOneWord", "()I"⟩, 9) := ⟨⟨by decide +kernel, by decide +kernel⟩, List.mem_of_getElem? (i := 15) (by decide +kernel), List.mem_of_getElem? (i := 505) (by decide +kernel), List.mem_of_getElem? (i := 506) (by decide +kernel)⟩
def lw_privs_1 : List (MethodName × Nat) := [(⟨"EvenBreaks", "layAnew", "()V"⟩, 9), (⟨"EvenBreaks$Layout", "settle", "(I)V"⟩, 13), (⟨"EvenBreaks$Layout", "priceOf", "(II)I"⟩, 13), (⟨"EvenBreaks$Layout", "tightPrice", "(I)I"⟩, 13), (⟨"EvenBreaks$Layout", "loosePrice", "(I)I"⟩, 13), (⟨"EvenBreaks$Layout", "layLines", "()V"⟩, 13), (⟨"EvenBreaks$Layout", "isBegin", "(I)Z"⟩, 13), (⟨"EvenBreaks$Typed", "faultOf", "(II)I"⟩, 5), (⟨"EvenBreaks$Typed", "addToWord", "(II)V"⟩, 5), (⟨"EvenBreaks$Layout", "firstFall", "(III)I"⟩, 13), (⟨"EvenBreaks$Layout", "hasGapAt", "(II)Z"⟩, 13), (⟨"EvenBreaks", "surveyed", "()LEvenBreaks$Survey;"⟩, 9), (⟨"EvenBreaks$Survey", "fits", "(I)Z"⟩, 6), (⟨"EvenBreaks$Survey", "fittingThatBegin", "(I)I"⟩, 6), (⟨"EvenBreaks", "grows", "(I)I"⟩, 9), (⟨"EvenBreaks", "readOneWord", "()I"⟩, 9)]
theorem lw_r1 : ∀ q ∈ lw_privs_1, lw_okq q := List.forall_mem_cons.mpr ⟨lw_p0, List.forall_mem_cons.mpr ⟨lw_p1, List.forall_mem_cons.mpr ⟨lw_p2, List.forall_mem_cons.mpr ⟨lw_p3, List.forall_mem_cons.mpr ⟨lw_p4, List.forall_mem_cons.mpr ⟨lw_p5, List.forall_mem_cons.mpr ⟨lw_p6, List.forall_mem_cons.mpr ⟨lw_p7, List.forall_mem_cons.mpr ⟨lw_p8, List.forall_mem_cons.mpr ⟨lw_p9, List.forall_mem_cons.mpr ⟨lw_p10, List.forall_mem_cons.mpr ⟨lw_p11, List.forall_mem_cons.mpr ⟨lw_p12, List.forall_mem_cons.mpr ⟨lw_p13, List.forall_mem_cons.mpr ⟨lw_p14, List.forall_mem_cons.mpr ⟨lw_p15, fun _ h => absurd h List.not_mem_nil⟩⟩⟩⟩⟩⟩⟩⟩⟩⟩⟩⟩⟩⟩⟩⟩
theorem lw_p16 : lw_okq (⟨"EvenBreaks", "driftOnce", "()V"⟩, 9) := ⟨⟨by decide +kernel, by decide +kernel⟩, List.mem_of_getElem? (i := 15) (by decide +kernel), List.mem_of_getElem? (i := 549) (by decide +kernel), List.mem_of_getElem? (i := 550) (by decide +kernel)⟩
theorem lw_p17 : lw_okq (⟨"EvenBreaks$Layout", "leastWithOneMore", "(II)I"⟩, 13) := ⟨⟨by decide +kernel, by decide +kernel⟩, List.mem_of_getElem? (i := 141) (by decide +kernel), List.mem_of_getElem? (i := 596) (by decide +kernel), List.mem_of_getElem? (i := 597) (by decide +kernel)⟩
theorem lw_p18 : lw_okq (⟨"EvenBreaksModel", "readWords", "()I"⟩, 29) := ⟨⟨by decide +kernel, by decide +kernel⟩, List.mem_of_getElem? (i := 648) (by decide +kernel), List.mem_of_getElem? (i := 757) (by decide +kernel), List.mem_of_getElem? (i := 758) (by decide +kernel)⟩
theorem lw_p19 : lw_okq (⟨"EvenBreaksModel", "wrongs", "(II)I"⟩, 29) := ⟨⟨by decide +kernel, by decide +kernel⟩, List.mem_of_getElem? (i := 648) (by decide +kernel), List.mem_of_getElem? (i := 763) (by decide +kernel), List.mem_of_getElem? (i := 764) (by decide +kernel)⟩
theorem lw_p20 : lw_okq (⟨"EvenBreaksModel", "note", "()V"⟩, 29) := ⟨⟨by decide +kernel, by decide +kernel⟩, List.mem_of_getElem? (i := 648) (by decide +kernel), List.mem_of_getElem? (i := 767) (by decide +kernel), List.mem_of_getElem? (i := 768) (by decide +kernel)⟩
theorem lw_p21 : lw_okq (⟨"EvenBreaksModel", "takeWord", "(II)V"⟩, 29) := ⟨⟨by decide +kernel, by decide +kernel⟩, List.mem_of_getElem? (i := 648) (by decide +kernel), List.mem_of_getElem? (i := 771) (by decide +kernel), List.mem_of_getElem? (i := 772) (by decide +kernel)⟩
theorem lw_p22 : lw_okq (⟨"EvenBreaksModel", "clearWord", "(I)V"⟩, 29) := ⟨⟨by decide +kernel, by decide +kernel⟩, List.mem_of_getElem? (i := 648) (by decide +kernel), List.mem_of_getElem? (i := 775) (by decide +kernel), List.mem_of_getElem? (i := 776) (by decide +kernel)⟩
theorem lw_p23 : lw_okq (⟨"EvenBreaksModel", "isWord", "(I)Z"⟩, 29) := ⟨⟨by decide +kernel, by decide +kernel⟩, List.mem_of_getElem? (i := 648) (by decide +kernel), List.mem_of_getElem? (i := 787) (by decide +kernel), List.mem_of_getElem? (i := 788) (by decide +kernel)⟩
theorem lw_p24 : lw_okq (⟨"EvenBreaksModel", "wordWidth", "(I)I"⟩, 29) := ⟨⟨by decide +kernel, by decide +kernel⟩, List.mem_of_getElem? (i := 648) (by decide +kernel), List.mem_of_getElem? (i := 793) (by decide +kernel), List.mem_of_getElem? (i := 794) (by decide +kernel)⟩
theorem lw_p25 : lw_okq (⟨"EvenBreaksModel", "lineOf", "(I)I"⟩, 29) := ⟨⟨by decide +kernel, by decide +kernel⟩, List.mem_of_getElem? (i := 648) (by decide +kernel), List.mem_of_getElem? (i := 800) (by decide +kernel), List.mem_of_getElem? (i := 801) (by decide +kernel)⟩
theorem lw_p26 : lw_okq (⟨"EvenBreaksModel", "layLines", "()V"⟩, 29) := ⟨⟨by decide +kernel, by decide +kernel⟩, List.mem_of_getElem? (i := 648) (by decide +kernel), List.mem_of_getElem? (i := 804) (by decide +kernel), List.mem_of_getElem? (i := 805) (by decide +kernel)⟩
theorem lw_p27 : lw_okq (⟨"EvenBreaksModel", "lay", "()V"⟩, 29) := ⟨⟨by decide +kernel, by decide +kernel⟩, List.mem_of_getElem? (i := 648) (by decide +kernel), List.mem_of_getElem? (i := 808) (by decide +kernel), List.mem_of_getElem? (i := 809) (by decide +kernel)⟩
theorem lw_p28 : lw_okq (⟨"EvenBreaksModel", "measureWords", "()V"⟩, 29) := ⟨⟨by decide +kernel, by decide +kernel⟩, List.mem_of_getElem? (i := 648) (by decide +kernel), List.mem_of_getElem? (i := 812) (by decide +kernel), List.mem_of_getElem? (i := 813) (by decide +kernel)⟩
theorem lw_p29 : lw_okq (⟨"EvenBreaksModel", "layBy", "(I)V"⟩, 29) := ⟨⟨by decide +kernel, by decide +kernel⟩, List.mem_of_getElem? (i := 648) (by decide +kernel), List.mem_of_getElem? (i := 816) (by decide +kernel), List.mem_of_getElem? (i := 817) (by decide +kernel)⟩
theorem lw_p30 : lw_okq (⟨"EvenBreaksModel", "costOf", "(III)I"⟩, 29) := ⟨⟨by decide +kernel, by decide +kernel⟩, List.mem_of_getElem? (i := 648) (by decide +kernel), List.mem_of_getElem? (i := 821) (by decide +kernel), List.mem_of_getElem? (i := 822) (by decide +kernel)⟩
theorem lw_p31 : lw_okq (⟨"EvenBreaksModel", "lineWidth", "(II)I"⟩, 29) := ⟨⟨by decide +kernel, by decide +kernel⟩, List.mem_of_getElem? (i := 648) (by decide +kernel), List.mem_of_getElem? (i := 825) (by decide +kernel), List.mem_of_getElem? (i := 826) (by decide +kernel)⟩
def lw_privs_2 : List (MethodName × Nat) := [(⟨"EvenBreaks", "driftOnce", "()V"⟩, 9), (⟨"EvenBreaks$Layout", "leastWithOneMore", "(II)I"⟩, 13), (⟨"EvenBreaksModel", "readWords", "()I"⟩, 29), (⟨"EvenBreaksModel", "wrongs", "(II)I"⟩, 29), (⟨"EvenBreaksModel", "note", "()V"⟩, 29), (⟨"EvenBreaksModel", "takeWord", "(II)V"⟩, 29), (⟨"EvenBreaksModel", "clearWord", "(I)V"⟩, 29), (⟨"EvenBreaksModel", "isWord", "(I)Z"⟩, 29), (⟨"EvenBreaksModel", "wordWidth", "(I)I"⟩, 29), (⟨"EvenBreaksModel", "lineOf", "(I)I"⟩, 29), (⟨"EvenBreaksModel", "layLines", "()V"⟩, 29), (⟨"EvenBreaksModel", "lay", "()V"⟩, 29), (⟨"EvenBreaksModel", "measureWords", "()V"⟩, 29), (⟨"EvenBreaksModel", "layBy", "(I)V"⟩, 29), (⟨"EvenBreaksModel", "costOf", "(III)I"⟩, 29), (⟨"EvenBreaksModel", "lineWidth", "(II)I"⟩, 29)]
theorem lw_r2 : ∀ q ∈ lw_privs_2, lw_okq q := List.forall_mem_cons.mpr ⟨lw_p16, List.forall_mem_cons.mpr ⟨lw_p17, List.forall_mem_cons.mpr ⟨lw_p18, List.forall_mem_cons.mpr ⟨lw_p19, List.forall_mem_cons.mpr ⟨lw_p20, List.forall_mem_cons.mpr ⟨lw_p21, List.forall_mem_cons.mpr ⟨lw_p22, List.forall_mem_cons.mpr ⟨lw_p23, List.forall_mem_cons.mpr ⟨lw_p24, List.forall_mem_cons.mpr ⟨lw_p25, List.forall_mem_cons.mpr ⟨lw_p26, List.forall_mem_cons.mpr ⟨lw_p27, List.forall_mem_cons.mpr ⟨lw_p28, List.forall_mem_cons.mpr ⟨lw_p29, List.forall_mem_cons.mpr ⟨lw_p30, List.forall_mem_cons.mpr ⟨lw_p31, fun _ h => absurd h List.not_mem_nil⟩⟩⟩⟩⟩⟩⟩⟩⟩⟩⟩⟩⟩⟩⟩⟩
theorem lw_p32 : lw_okq (⟨"EvenBreaksModel", "breakLines", "()V"⟩, 29) := ⟨⟨by decide +kernel, by decide +kernel⟩, List.mem_of_getElem? (i := 648) (by decide +kernel), List.mem_of_getElem? (i := 835) (by decide +kernel), List.mem_of_getElem? (i := 836) (by decide +kernel)⟩
theorem lw_p33 : lw_okq (⟨"EvenBreaksModel", "growsOf", "(I)I"⟩, 29) := ⟨⟨by decide +kernel, by decide +kernel⟩, List.mem_of_getElem? (i := 648) (by decide +kernel), List.mem_of_getElem? (i := 839) (by decide +kernel), List.mem_of_getElem? (i := 840) (by decide +kernel)⟩
theorem lw_p34 : lw_okq (⟨"EvenBreaksModel", "beginSet", "()J"⟩, 29) := ⟨⟨by decide +kernel, by decide +kernel⟩, List.mem_of_getElem? (i := 648) (by decide +kernel), List.mem_of_getElem? (i := 843) (by decide +kernel), List.mem_of_getElem? (i := 844) (by decide +kernel)⟩
theorem lw_p35 : lw_okq (⟨"EvenBreaksModel", "isEnd", "(I)Z"⟩, 29) := ⟨⟨by decide +kernel, by decide +kernel⟩, List.mem_of_getElem? (i := 648) (by decide +kernel), List.mem_of_getElem? (i := 851) (by decide +kernel), List.mem_of_getElem? (i := 852) (by decide +kernel)⟩
theorem lw_p36 : lw_okq (⟨"EvenBreaksModel", "runsAt", "(I)I"⟩, 29) := ⟨⟨by decide +kernel, by decide +kernel⟩, List.mem_of_getElem? (i := 648) (by decide +kernel), List.mem_of_getElem? (i := 856) (by decide +kernel), List.mem_of_getElem? (i := 857) (by decide +kernel)⟩
theorem lw_p37 : lw_okq (⟨"EvenBreaksModel", "ownerBy", "(II)I"⟩, 29) := ⟨⟨by decide +kernel, by decide +kernel⟩, List.mem_of_getElem? (i := 648) (by decide +kernel), List.mem_of_getElem? (i := 860) (by decide +kernel), List.mem_of_getElem? (i := 861) (by decide +kernel)⟩
theorem lw_p38 : lw_okq (⟨"EvenBreaksModel", "readOne", "()I"⟩, 29) := ⟨⟨by decide +kernel, by decide +kernel⟩, List.mem_of_getElem? (i := 648) (by decide +kernel), List.mem_of_getElem? (i := 876) (by decide +kernel), List.mem_of_getElem? (i := 877) (by decide +kernel)⟩
theorem lw_p39 : lw_okq (⟨"EvenBreaksModel", "putIn", "(I)V"⟩, 29) := ⟨⟨by decide +kernel, by decide +kernel⟩, List.mem_of_getElem? (i := 648) (by decide +kernel), List.mem_of_getElem? (i := 885) (by decide +kernel), List.mem_of_getElem? (i := 886) (by decide +kernel)⟩
theorem lw_p40 : lw_okq (⟨"EvenBreaksModel", "moveWord", "(II)V"⟩, 29) := ⟨⟨by decide +kernel, by decide +kernel⟩, List.mem_of_getElem? (i := 648) (by decide +kernel), List.mem_of_getElem? (i := 889) (by decide +kernel), List.mem_of_getElem? (i := 890) (by decide +kernel)⟩
theorem lw_p41 : lw_okq (⟨"EvenBreaksModel", "becomes", "(IIII)I"⟩, 29) := ⟨⟨by decide +kernel, by decide +kernel⟩, List.mem_of_getElem? (i := 648) (by decide +kernel), List.mem_of_getElem? (i := 901) (by decide +kernel), List.mem_of_getElem? (i := 902) (by decide +kernel)⟩
theorem lw_p42 : lw_okq (⟨"EvenBreaksModel", "total", "()I"⟩, 29) := ⟨⟨by decide +kernel, by decide +kernel⟩, List.mem_of_getElem? (i := 648) (by decide +kernel), List.mem_of_getElem? (i := 905) (by decide +kernel), List.mem_of_getElem? (i := 906) (by decide +kernel)⟩
theorem lw_p43 : lw_okq (⟨"EvenBreaksModel", "drawOf", "(I)I"⟩, 29) := ⟨⟨by decide +kernel, by decide +kernel⟩, List.mem_of_getElem? (i := 648) (by decide +kernel), List.mem_of_getElem? (i := 926) (by decide +kernel), List.mem_of_getElem? (i := 927) (by decide +kernel)⟩
theorem lw_p44 : lw_okq (⟨"EvenBreaksModel", "firstOf", "(I)I"⟩, 29) := ⟨⟨by decide +kernel, by decide +kernel⟩, List.mem_of_getElem? (i := 648) (by decide +kernel), List.mem_of_getElem? (i := 942) (by decide +kernel), List.mem_of_getElem? (i := 943) (by decide +kernel)⟩
theorem lw_p45 : lw_okq (⟨"EvenBreaksModel", "toldLines", "(I)I"⟩, 29) := ⟨⟨by decide +kernel, by decide +kernel⟩, List.mem_of_getElem? (i := 648) (by decide +kernel), List.mem_of_getElem? (i := 989) (by decide +kernel), List.mem_of_getElem? (i := 990) (by decide +kernel)⟩
theorem lw_p46 : lw_okq (⟨"EvenBreaksModel", "rivers", "()I"⟩, 29) := ⟨⟨by decide +kernel, by decide +kernel⟩, List.mem_of_getElem? (i := 648) (by decide +kernel), List.mem_of_getElem? (i := 993) (by decide +kernel), List.mem_of_getElem? (i := 994) (by decide +kernel)⟩
theorem lw_p47 : lw_okq (⟨"EvenBreaksModel", "toldMeasures", "(I)I"⟩, 29) := ⟨⟨by decide +kernel, by decide +kernel⟩, List.mem_of_getElem? (i := 648) (by decide +kernel), List.mem_of_getElem? (i := 997) (by decide +kernel), List.mem_of_getElem? (i := 998) (by decide +kernel)⟩
def lw_privs_3 : List (MethodName × Nat) := [(⟨"EvenBreaksModel", "breakLines", "()V"⟩, 29), (⟨"EvenBreaksModel", "growsOf", "(I)I"⟩, 29), (⟨"EvenBreaksModel", "beginSet", "()J"⟩, 29), (⟨"EvenBreaksModel", "isEnd", "(I)Z"⟩, 29), (⟨"EvenBreaksModel", "runsAt", "(I)I"⟩, 29), (⟨"EvenBreaksModel", "ownerBy", "(II)I"⟩, 29), (⟨"EvenBreaksModel", "readOne", "()I"⟩, 29), (⟨"EvenBreaksModel", "putIn", "(I)V"⟩, 29), (⟨"EvenBreaksModel", "moveWord", "(II)V"⟩, 29), (⟨"EvenBreaksModel", "becomes", "(IIII)I"⟩, 29), (⟨"EvenBreaksModel", "total", "()I"⟩, 29), (⟨"EvenBreaksModel", "drawOf", "(I)I"⟩, 29), (⟨"EvenBreaksModel", "firstOf", "(I)I"⟩, 29), (⟨"EvenBreaksModel", "toldLines", "(I)I"⟩, 29), (⟨"EvenBreaksModel", "rivers", "()I"⟩, 29), (⟨"EvenBreaksModel", "toldMeasures", "(I)I"⟩, 29)]
theorem lw_r3 : ∀ q ∈ lw_privs_3, lw_okq q := List.forall_mem_cons.mpr ⟨lw_p32, List.forall_mem_cons.mpr ⟨lw_p33, List.forall_mem_cons.mpr ⟨lw_p34, List.forall_mem_cons.mpr ⟨lw_p35, List.forall_mem_cons.mpr ⟨lw_p36, List.forall_mem_cons.mpr ⟨lw_p37, List.forall_mem_cons.mpr ⟨lw_p38, List.forall_mem_cons.mpr ⟨lw_p39, List.forall_mem_cons.mpr ⟨lw_p40, List.forall_mem_cons.mpr ⟨lw_p41, List.forall_mem_cons.mpr ⟨lw_p42, List.forall_mem_cons.mpr ⟨lw_p43, List.forall_mem_cons.mpr ⟨lw_p44, List.forall_mem_cons.mpr ⟨lw_p45, List.forall_mem_cons.mpr ⟨lw_p46, List.forall_mem_cons.mpr ⟨lw_p47, fun _ h => absurd h List.not_mem_nil⟩⟩⟩⟩⟩⟩⟩⟩⟩⟩⟩⟩⟩⟩⟩⟩
theorem lw_p48 : lw_okq (⟨"EvenBreaksModel", "layMeasures", "()V"⟩, 29) := ⟨⟨by decide +kernel, by decide +kernel⟩, List.mem_of_getElem? (i := 648) (by decide +kernel), List.mem_of_getElem? (i := 1001) (by decide +kernel), List.mem_of_getElem? (i := 1002) (by decide +kernel)⟩
theorem lw_p49 : lw_okq (⟨"EvenBreaksModel", "lookOf", "()I"⟩, 29) := ⟨⟨by decide +kernel, by decide +kernel⟩, List.mem_of_getElem? (i := 648) (by decide +kernel), List.mem_of_getElem? (i := 1005) (by decide +kernel), List.mem_of_getElem? (i := 1006) (by decide +kernel)⟩
theorem lw_p50 : lw_okq (⟨"EvenBreaksModel", "wrongEntry", "()I"⟩, 29) := ⟨⟨by decide +kernel, by decide +kernel⟩, List.mem_of_getElem? (i := 648) (by decide +kernel), List.mem_of_getElem? (i := 1009) (by decide +kernel), List.mem_of_getElem? (i := 1010) (by decide +kernel)⟩
def lw_privs_4 : List (MethodName × Nat) := [(⟨"EvenBreaksModel", "layMeasures", "()V"⟩, 29), (⟨"EvenBreaksModel", "lookOf", "()I"⟩, 29), (⟨"EvenBreaksModel", "wrongEntry", "()I"⟩, 29)]
theorem lw_r4 : ∀ q ∈ lw_privs_4, lw_okq q := List.forall_mem_cons.mpr ⟨lw_p48, List.forall_mem_cons.mpr ⟨lw_p49, List.forall_mem_cons.mpr ⟨lw_p50, fun _ h => absurd h List.not_mem_nil⟩⟩⟩
def lw_privs : List (MethodName × Nat) := lw_privs_1 ++ (lw_privs_2 ++ (lw_privs_3 ++ (lw_privs_4)))
def lw_tbl : List Cond := k2_sels lw_privs ++ tables_1
theorem lw_privs_ok : ∀ q ∈ lw_privs, lw_okq q := by
  show ∀ q ∈ lw_privs_1 ++ (lw_privs_2 ++ (lw_privs_3 ++ (lw_privs_4))), lw_okq q
  exact List.forall_mem_append.mpr ⟨lw_r1, List.forall_mem_append.mpr ⟨lw_r2, List.forall_mem_append.mpr ⟨lw_r3, lw_r4⟩⟩⟩
end
section
def RX0 : String := "EvenBreaks$Book"
def TX0 : u_T := fun k => match k with
  | 0 => ("EvenBreaks$Book", "lineOf", "[I", true)
  | 1 => ("EvenBreaks$Book", "beginOf", "[I", true)
  | _ => ("EvenBreaks$Book", "count", "I", false)
def tyX0 : Nat → FieldType := fun k => match k with
  | 0 => .array .int
  | 1 => .array .int
  | _ => .int
theorem nmX0 : ∀ a, a < 3 → ∀ b, b < 3 → a ≠ b → (TX0 a).2.1 ≠ (TX0 b).2.1 := by decide +kernel
theorem tyX0_ok : ∀ k, k < 3 → parseFieldDescriptor (TX0 k).2.2.1 = some (tyX0 k) := by decide +kernel
abbrev cX0_init : ByteArray := prog_2_method_1_code
def yX0_init : MethodName := ⟨RX0, "<init>", "()V"⟩
abbrev cX0_add : ByteArray := prog_2_method_2_code
def yX0_add : MethodName := ⟨RX0, "add", "(II)I"⟩
abbrev cX0_firstWrong : ByteArray := prog_2_method_3_code
def yX0_firstWrong : MethodName := ⟨RX0, "firstWrong", "(LEvenBreaks$Layout;)I"⟩
def RX1 : String := "EvenBreaks$Draws"
def TX1 : u_T := fun k => match k with
  | _ => ("EvenBreaks$Draws", "state", "I", false)
def tyX1 : Nat → FieldType := fun k => match k with
  | _ => .int
theorem nmX1 : ∀ a, a < 1 → ∀ b, b < 1 → a ≠ b → (TX1 a).2.1 ≠ (TX1 b).2.1 := by decide +kernel
theorem tyX1_ok : ∀ k, k < 1 → parseFieldDescriptor (TX1 k).2.2.1 = some (tyX1 k) := by decide +kernel
abbrev cX1_init : ByteArray := prog_3_method_1_code
def yX1_init : MethodName := ⟨RX1, "<init>", "()V"⟩
abbrev cX1_draw : ByteArray := prog_3_method_2_code
def yX1_draw : MethodName := ⟨RX1, "draw", "(I)I"⟩
abbrev cX1_drawWord : ByteArray := prog_3_method_3_code
def yX1_drawWord : MethodName := ⟨RX1, "drawWord", "()J"⟩
def RX2 : String := "EvenBreaks$Image"
def TX2 : u_T := fun k => match k with
  | 0 => ("EvenBreaks$Image", "text", "LEvenBreaks$Text;", true)
  | 1 => ("EvenBreaks$Image", "state", "I", false)
  | _ => ("EvenBreaks$Image", "kept", "Z", false)
def tyX2 : Nat → FieldType := fun k => match k with
  | 0 => .object "EvenBreaks$Text"
  | 1 => .int
  | _ => .boolean
theorem nmX2 : ∀ a, a < 3 → ∀ b, b < 3 → a ≠ b → (TX2 a).2.1 ≠ (TX2 b).2.1 := by decide +kernel
theorem tyX2_ok : ∀ k, k < 3 → parseFieldDescriptor (TX2 k).2.2.1 = some (tyX2 k) := by decide +kernel
abbrev cX2_init : ByteArray := prog_4_method_1_code
def yX2_init : MethodName := ⟨RX2, "<init>", "()V"⟩
def RX3 : String := "EvenBreaks$Layout"
def TX3 : u_T := fun k => match k with
  | 0 => ("EvenBreaks$Layout", "roots", "[I", true)
  | 1 => ("EvenBreaks$Layout", "place", "[I", true)
  | 2 => ("EvenBreaks$Layout", "total", "[I", true)
  | 3 => ("EvenBreaks$Layout", "owner", "[I", true)
  | 4 => ("EvenBreaks$Layout", "lineBegin", "[I", true)
  | 5 => ("EvenBreaks$Layout", "row", "[I", true)
  | 6 => ("EvenBreaks$Layout", "last", "I", false)
  | 7 => ("EvenBreaks$Layout", "measure", "I", false)
  | 8 => ("EvenBreaks$Layout", "law", "I", false)
  | 9 => ("EvenBreaks$Layout", "fee", "I", false)
  | 10 => ("EvenBreaks$Layout", "free", "Z", false)
  | 11 => ("EvenBreaks$Layout", "lines", "I", false)
  | _ => ("EvenBreaks$Layout", "begins", "J", false)
def tyX3 : Nat → FieldType := fun k => match k with
  | 0 => .array .int
  | 1 => .array .int
  | 2 => .array .int
  | 3 => .array .int
  | 4 => .array .int
  | 5 => .array .int
  | 6 => .int
  | 7 => .int
  | 8 => .int
  | 9 => .int
  | 10 => .boolean
  | 11 => .int
  | _ => .long
theorem nmX3 : ∀ a, a < 13 → ∀ b, b < 13 → a ≠ b → (TX3 a).2.1 ≠ (TX3 b).2.1 := by decide +kernel
theorem tyX3_ok : ∀ k, k < 13 → parseFieldDescriptor (TX3 k).2.2.1 = some (tyX3 k) := by decide +kernel
abbrev cX3_init : ByteArray := prog_5_method_1_code
def yX3_init : MethodName := ⟨RX3, "<init>", "([I)V"⟩
abbrev cX3_load : ByteArray := prog_5_method_2_code
def yX3_load : MethodName := ⟨RX3, "load", "(LEvenBreaks$Text;)V"⟩
abbrev cX3_widen : ByteArray := prog_5_method_3_code
def yX3_widen : MethodName := ⟨RX3, "widen", "(II)V"⟩
abbrev cX3_widthOf : ByteArray := prog_5_method_4_code
def yX3_widthOf : MethodName := ⟨RX3, "widthOf", "(II)I"⟩
abbrev cX3_price : ByteArray := prog_5_method_5_code
def yX3_price : MethodName := ⟨RX3, "price", "(II)I"⟩
abbrev cX3_priceOf : ByteArray := prog_5_method_6_code
def yX3_priceOf : MethodName := ⟨RX3, "priceOf", "(II)I"⟩
abbrev cX3_tightPrice : ByteArray := prog_5_method_7_code
def yX3_tightPrice : MethodName := ⟨RX3, "tightPrice", "(I)I"⟩
abbrev cX3_loosePrice : ByteArray := prog_5_method_8_code
def yX3_loosePrice : MethodName := ⟨RX3, "loosePrice", "(I)I"⟩
abbrev cX3_solve : ByteArray := prog_5_method_9_code
def yX3_solve : MethodName := ⟨RX3, "solve", "()V"⟩
abbrev cX3_settle : ByteArray := prog_5_method_10_code
def yX3_settle : MethodName := ⟨RX3, "settle", "(I)V"⟩
abbrev cX3_layLines : ByteArray := prog_5_method_11_code
def yX3_layLines : MethodName := ⟨RX3, "layLines", "()V"⟩
abbrev cX3_isBegin : ByteArray := prog_5_method_12_code
def yX3_isBegin : MethodName := ⟨RX3, "isBegin", "(I)Z"⟩
abbrev cX3_lastTotal : ByteArray := prog_5_method_13_code
def yX3_lastTotal : MethodName := ⟨RX3, "lastTotal", "()I"⟩
abbrev cX3_beginOf : ByteArray := prog_5_method_14_code
def yX3_beginOf : MethodName := ⟨RX3, "beginOf", "(I)I"⟩
abbrev cX3_endOf : ByteArray := prog_5_method_15_code
def yX3_endOf : MethodName := ⟨RX3, "endOf", "(I)I"⟩
abbrev cX3_lineOf : ByteArray := prog_5_method_16_code
def yX3_lineOf : MethodName := ⟨RX3, "lineOf", "(I)I"⟩
abbrev cX3_ownerKnownTo : ByteArray := prog_5_method_17_code
def yX3_ownerKnownTo : MethodName := ⟨RX3, "ownerKnownTo", "(II)I"⟩
abbrev cX3_runsAt : ByteArray := prog_5_method_18_code
def yX3_runsAt : MethodName := ⟨RX3, "runsAt", "(I)I"⟩
abbrev cX3_leastWithLines : ByteArray := prog_5_method_19_code
def yX3_leastWithLines : MethodName := ⟨RX3, "leastWithLines", "(I)I"⟩
abbrev cX3_leastWithOneMore : ByteArray := prog_5_method_20_code
def yX3_leastWithOneMore : MethodName := ⟨RX3, "leastWithOneMore", "(II)I"⟩
abbrev cX3_rivers : ByteArray := prog_5_method_21_code
def yX3_rivers : MethodName := ⟨RX3, "rivers", "()I"⟩
abbrev cX3_hasGapAt : ByteArray := prog_5_method_22_code
def yX3_hasGapAt : MethodName := ⟨RX3, "hasGapAt", "(II)Z"⟩
abbrev cX3_firstCrossed : ByteArray := prog_5_method_23_code
def yX3_firstCrossed : MethodName := ⟨RX3, "firstCrossed", "(I)I"⟩
abbrev cX3_firstFall : ByteArray := prog_5_method_24_code
def yX3_firstFall : MethodName := ⟨RX3, "firstFall", "(III)I"⟩
def RX4 : String := "EvenBreaks$Past"
def TX4 : u_T := fun k => match k with
  | 0 => ("EvenBreaks$Past", "texts", "[LEvenBreaks$Text;", true)
  | 1 => ("EvenBreaks$Past", "next", "I", false)
  | _ => ("EvenBreaks$Past", "count", "I", false)
def tyX4 : Nat → FieldType := fun k => match k with
  | 0 => .array (.object "EvenBreaks$Text")
  | 1 => .int
  | _ => .int
theorem nmX4 : ∀ a, a < 3 → ∀ b, b < 3 → a ≠ b → (TX4 a).2.1 ≠ (TX4 b).2.1 := by decide +kernel
theorem tyX4_ok : ∀ k, k < 3 → parseFieldDescriptor (TX4 k).2.2.1 = some (tyX4 k) := by decide +kernel
abbrev cX4_init : ByteArray := prog_6_method_1_code
def yX4_init : MethodName := ⟨RX4, "<init>", "()V"⟩
abbrev cX4_remember : ByteArray := prog_6_method_2_code
def yX4_remember : MethodName := ⟨RX4, "remember", "(LEvenBreaks$Text;)V"⟩
abbrev cX4_giveBack : ByteArray := prog_6_method_3_code
def yX4_giveBack : MethodName := ⟨RX4, "giveBack", "(ILEvenBreaks$Text;)V"⟩
def RX5 : String := "EvenBreaks$Spelling"
def TX5 : u_T := fun k => match k with
  | _ => ("", "", "", false)
def tyX5 : Nat → FieldType := fun k => match k with
  | _ => .int
theorem nmX5 : ∀ a, a < 0 → ∀ b, b < 0 → a ≠ b → (TX5 a).2.1 ≠ (TX5 b).2.1 := by decide +kernel
theorem tyX5_ok : ∀ k, k < 0 → parseFieldDescriptor (TX5 k).2.2.1 = some (tyX5 k) := by decide +kernel
abbrev cX5_withLetter : ByteArray := prog_7_method_2_code
def yX5_withLetter : MethodName := ⟨RX5, "withLetter", "(JII)J"⟩
abbrev cX5_letterAt : ByteArray := prog_7_method_3_code
def yX5_letterAt : MethodName := ⟨RX5, "letterAt", "(JI)I"⟩
abbrev cX5_lengthOf : ByteArray := prog_7_method_4_code
def yX5_lengthOf : MethodName := ⟨RX5, "lengthOf", "(J)I"⟩
abbrev cX5_widthOf : ByteArray := prog_7_method_5_code
def yX5_widthOf : MethodName := ⟨RX5, "widthOf", "(J)I"⟩
abbrev cX5_letterWidth : ByteArray := prog_7_method_6_code
def yX5_letterWidth : MethodName := ⟨RX5, "letterWidth", "(I)I"⟩
def RX6 : String := "EvenBreaks$Survey"
def TX6 : u_T := fun k => match k with
  | 0 => ("EvenBreaks$Survey", "totalBy", "[I", true)
  | 1 => ("EvenBreaks$Survey", "beginsBy", "[J", true)
  | 2 => ("EvenBreaks$Survey", "isFresh", "Z", false)
  | 3 => ("EvenBreaks$Survey", "seen", "I", false)
  | 4 => ("EvenBreaks$Survey", "seenBegin", "J", false)
  | _ => ("EvenBreaks$Survey", "seenNone", "J", false)
def tyX6 : Nat → FieldType := fun k => match k with
  | 0 => .array .int
  | 1 => .array .long
  | 2 => .boolean
  | 3 => .int
  | 4 => .long
  | _ => .long
theorem nmX6 : ∀ a, a < 6 → ∀ b, b < 6 → a ≠ b → (TX6 a).2.1 ≠ (TX6 b).2.1 := by decide +kernel
theorem tyX6_ok : ∀ k, k < 6 → parseFieldDescriptor (TX6 k).2.2.1 = some (tyX6 k) := by decide +kernel
abbrev cX6_init : ByteArray := prog_8_method_1_code
def yX6_init : MethodName := ⟨RX6, "<init>", "()V"⟩
abbrev cX6_fill : ByteArray := prog_8_method_2_code
def yX6_fill : MethodName := ⟨RX6, "fill", "(LEvenBreaks$Layout;)V"⟩
abbrev cX6_note : ByteArray := prog_8_method_3_code
def yX6_note : MethodName := ⟨RX6, "note", "(IZ)I"⟩
abbrev cX6_forget : ByteArray := prog_8_method_4_code
def yX6_forget : MethodName := ⟨RX6, "forget", "()V"⟩
abbrev cX6_fits : ByteArray := prog_8_method_5_code
def yX6_fits : MethodName := ⟨RX6, "fits", "(I)Z"⟩
abbrev cX6_fitting : ByteArray := prog_8_method_6_code
def yX6_fitting : MethodName := ⟨RX6, "fitting", "()I"⟩
abbrev cX6_leastFitting : ByteArray := prog_8_method_7_code
def yX6_leastFitting : MethodName := ⟨RX6, "leastFitting", "()I"⟩
abbrev cX6_greatestFitting : ByteArray := prog_8_method_8_code
def yX6_greatestFitting : MethodName := ⟨RX6, "greatestFitting", "()I"⟩
abbrev cX6_look : ByteArray := prog_8_method_9_code
def yX6_look : MethodName := ⟨RX6, "look", "(I)I"⟩
abbrev cX6_fittingThatBegin : ByteArray := prog_8_method_10_code
def yX6_fittingThatBegin : MethodName := ⟨RX6, "fittingThatBegin", "(I)I"⟩
abbrev cX6_bestMeasure : ByteArray := prog_8_method_11_code
def yX6_bestMeasure : MethodName := ⟨RX6, "bestMeasure", "(II)I"⟩
def RX7 : String := "EvenBreaks$Text"
def TX7 : u_T := fun k => match k with
  | 0 => ("EvenBreaks$Text", "words", "[J", true)
  | 1 => ("EvenBreaks$Text", "count", "I", false)
  | 2 => ("EvenBreaks$Text", "measure", "I", false)
  | 3 => ("EvenBreaks$Text", "law", "I", false)
  | 4 => ("EvenBreaks$Text", "fee", "I", false)
  | _ => ("EvenBreaks$Text", "free", "Z", false)
def tyX7 : Nat → FieldType := fun k => match k with
  | 0 => .array .long
  | 1 => .int
  | 2 => .int
  | 3 => .int
  | 4 => .int
  | _ => .boolean
theorem nmX7 : ∀ a, a < 6 → ∀ b, b < 6 → a ≠ b → (TX7 a).2.1 ≠ (TX7 b).2.1 := by decide +kernel
theorem tyX7_ok : ∀ k, k < 6 → parseFieldDescriptor (TX7 k).2.2.1 = some (tyX7 k) := by decide +kernel
abbrev cX7_init : ByteArray := prog_9_method_1_code
def yX7_init : MethodName := ⟨RX7, "<init>", "()V"⟩
abbrev cX7_hasWord : ByteArray := prog_9_method_2_code
def yX7_hasWord : MethodName := ⟨RX7, "hasWord", "(I)Z"⟩
abbrev cX7_hasEnd : ByteArray := prog_9_method_3_code
def yX7_hasEnd : MethodName := ⟨RX7, "hasEnd", "(I)Z"⟩
abbrev cX7_become : ByteArray := prog_9_method_4_code
def yX7_become : MethodName := ⟨RX7, "become", "(LEvenBreaks$Text;)V"⟩
abbrev cX7_setWords : ByteArray := prog_9_method_5_code
def yX7_setWords : MethodName := ⟨RX7, "setWords", "([JI)V"⟩
abbrev cX7_putIn : ByteArray := prog_9_method_6_code
def yX7_putIn : MethodName := ⟨RX7, "putIn", "(IJ)V"⟩
abbrev cX7_takeOut : ByteArray := prog_9_method_7_code
def yX7_takeOut : MethodName := ⟨RX7, "takeOut", "(I)V"⟩
def RX8 : String := "EvenBreaks$Typed"
def TX8 : u_T := fun k => match k with
  | 0 => ("EvenBreaks$Typed", "letters", "[I", true)
  | 1 => ("EvenBreaks$Typed", "words", "[J", true)
  | 2 => ("EvenBreaks$Typed", "count", "I", false)
  | 3 => ("EvenBreaks$Typed", "wordCount", "I", false)
  | _ => ("EvenBreaks$Typed", "faultAt", "I", false)
def tyX8 : Nat → FieldType := fun k => match k with
  | 0 => .array .int
  | 1 => .array .long
  | 2 => .int
  | 3 => .int
  | _ => .int
theorem nmX8 : ∀ a, a < 5 → ∀ b, b < 5 → a ≠ b → (TX8 a).2.1 ≠ (TX8 b).2.1 := by decide +kernel
theorem tyX8_ok : ∀ k, k < 5 → parseFieldDescriptor (TX8 k).2.2.1 = some (tyX8 k) := by decide +kernel
abbrev cX8_init : ByteArray := prog_10_method_1_code
def yX8_init : MethodName := ⟨RX8, "<init>", "()V"⟩
abbrev cX8_add : ByteArray := prog_10_method_2_code
def yX8_add : MethodName := ⟨RX8, "add", "(I)I"⟩
abbrev cX8_read : ByteArray := prog_10_method_3_code
def yX8_read : MethodName := ⟨RX8, "read", "()I"⟩
abbrev cX8_faultOf : ByteArray := prog_10_method_4_code
def yX8_faultOf : MethodName := ⟨RX8, "faultOf", "(II)I"⟩
abbrev cX8_addToWord : ByteArray := prog_10_method_5_code
def yX8_addToWord : MethodName := ⟨RX8, "addToWord", "(II)V"⟩
def RX9 : String := "EvenBreaks"
def TX9 : u_T := fun k => match k with
  | 0 => ("EvenBreaks", "text", "LEvenBreaks$Text;", true)
  | 1 => ("EvenBreaks", "typed", "LEvenBreaks$Typed;", true)
  | 2 => ("EvenBreaks", "past", "LEvenBreaks$Past;", true)
  | 3 => ("EvenBreaks", "draws", "LEvenBreaks$Draws;", true)
  | 4 => ("EvenBreaks", "images", "[LEvenBreaks$Image;", true)
  | 5 => ("EvenBreaks", "now", "LEvenBreaks$Layout;", true)
  | 6 => ("EvenBreaks", "trial", "LEvenBreaks$Layout;", true)
  | 7 => ("EvenBreaks", "survey", "LEvenBreaks$Survey;", true)
  | _ => ("EvenBreaks", "book", "LEvenBreaks$Book;", true)
def tyX9 : Nat → FieldType := fun k => match k with
  | 0 => .object "EvenBreaks$Text"
  | 1 => .object "EvenBreaks$Typed"
  | 2 => .object "EvenBreaks$Past"
  | 3 => .object "EvenBreaks$Draws"
  | 4 => .array (.object "EvenBreaks$Image")
  | 5 => .object "EvenBreaks$Layout"
  | 6 => .object "EvenBreaks$Layout"
  | 7 => .object "EvenBreaks$Survey"
  | _ => .object "EvenBreaks$Book"
theorem nmX9 : ∀ a, a < 9 → ∀ b, b < 9 → a ≠ b → (TX9 a).2.1 ≠ (TX9 b).2.1 := by decide +kernel
theorem tyX9_ok : ∀ k, k < 9 → parseFieldDescriptor (TX9 k).2.2.1 = some (tyX9 k) := by decide +kernel
abbrev cX9_init : ByteArray := prog_1_method_1_code
def yX9_init : MethodName := ⟨RX9, "<init>", "()V"⟩
abbrev cX9_feed : ByteArray := prog_1_method_2_code
def yX9_feed : MethodName := ⟨RX9, "feed", "(I)I"⟩
abbrev cX9_type : ByteArray := prog_1_method_3_code
def yX9_type : MethodName := ⟨RX9, "type", "()I"⟩
abbrev cX9_fault : ByteArray := prog_1_method_4_code
def yX9_fault : MethodName := ⟨RX9, "fault", "()I"⟩
abbrev cX9_told : ByteArray := prog_1_method_5_code
def yX9_told : MethodName := ⟨RX9, "told", "(I)I"⟩
abbrev cX9_word : ByteArray := prog_1_method_6_code
def yX9_word : MethodName := ⟨RX9, "word", "(II)I"⟩
abbrev cX9_end : ByteArray := prog_1_method_7_code
def yX9_end : MethodName := ⟨RX9, "end", "(II)I"⟩
abbrev cX9_line : ByteArray := prog_1_method_8_code
def yX9_line : MethodName := ⟨RX9, "line", "(II)I"⟩
abbrev cX9_change : ByteArray := prog_1_method_9_code
def yX9_change : MethodName := ⟨RX9, "change", "(I)I"⟩
abbrev cX9_insert : ByteArray := prog_1_method_10_code
def yX9_insert : MethodName := ⟨RX9, "insert", "(I)I"⟩
abbrev cX9_take : ByteArray := prog_1_method_11_code
def yX9_take : MethodName := ⟨RX9, "take", "(I)I"⟩
abbrev cX9_measure : ByteArray := prog_1_method_12_code
def yX9_measure : MethodName := ⟨RX9, "measure", "(I)I"⟩
abbrev cX9_rule : ByteArray := prog_1_method_13_code
def yX9_rule : MethodName := ⟨RX9, "rule", "(I)I"⟩
abbrev cX9_fee : ByteArray := prog_1_method_14_code
def yX9_fee : MethodName := ⟨RX9, "fee", "(I)I"⟩
abbrev cX9_free : ByteArray := prog_1_method_15_code
def yX9_free : MethodName := ⟨RX9, "free", "(Z)I"⟩
abbrev cX9_drift : ByteArray := prog_1_method_16_code
def yX9_drift : MethodName := ⟨RX9, "drift", "(I)I"⟩
abbrev cX9_undo : ByteArray := prog_1_method_17_code
def yX9_undo : MethodName := ⟨RX9, "undo", "(I)I"⟩
abbrev cX9_cost : ByteArray := prog_1_method_18_code
def yX9_cost : MethodName := ⟨RX9, "cost", "(II)I"⟩
abbrev cX9_first : ByteArray := prog_1_method_19_code
def yX9_first : MethodName := ⟨RX9, "first", "(I)I"⟩
abbrev cX9_known : ByteArray := prog_1_method_20_code
def yX9_known : MethodName := ⟨RX9, "known", "(II)I"⟩
abbrev cX9_with : ByteArray := prog_1_method_21_code
def yX9_with : MethodName := ⟨RX9, "with", "(I)I"⟩
abbrev cX9_best : ByteArray := prog_1_method_22_code
def yX9_best : MethodName := ⟨RX9, "best", "(III)I"⟩
abbrev cX9_see : ByteArray := prog_1_method_23_code
def yX9_see : MethodName := ⟨RX9, "see", "(IZ)I"⟩
abbrev cX9_write : ByteArray := prog_1_method_24_code
def yX9_write : MethodName := ⟨RX9, "write", "(II)I"⟩
abbrev cX9_tear : ByteArray := prog_1_method_25_code
def yX9_tear : MethodName := ⟨RX9, "tear", "()I"⟩
abbrev cX9_seed : ByteArray := prog_1_method_26_code
def yX9_seed : MethodName := ⟨RX9, "seed", "(I)I"⟩
abbrev cX9_keep : ByteArray := prog_1_method_27_code
def yX9_keep : MethodName := ⟨RX9, "keep", "(I)I"⟩
abbrev cX9_goBack : ByteArray := prog_1_method_28_code
def yX9_goBack : MethodName := ⟨RX9, "goBack", "(I)I"⟩
abbrev cX9_layAnew : ByteArray := prog_1_method_29_code
def yX9_layAnew : MethodName := ⟨RX9, "layAnew", "()V"⟩
abbrev cX9_surveyed : ByteArray := prog_1_method_30_code
def yX9_surveyed : MethodName := ⟨RX9, "surveyed", "()LEvenBreaks$Survey;"⟩
abbrev cX9_readOneWord : ByteArray := prog_1_method_31_code
def yX9_readOneWord : MethodName := ⟨RX9, "readOneWord", "()I"⟩
abbrev cX9_driftOnce : ByteArray := prog_1_method_32_code
def yX9_driftOnce : MethodName := ⟨RX9, "driftOnce", "()V"⟩
abbrev cX9_grows : ByteArray := prog_1_method_33_code
def yX9_grows : MethodName := ⟨RX9, "grows", "(I)I"⟩
abbrev cX9_tableOfRoots : ByteArray := prog_1_method_34_code
def yX9_tableOfRoots : MethodName := ⟨RX9, "tableOfRoots", "()[I"⟩
def RX10 : String := "EvenBreaksModel"
def TX10 : u_T := fun k => match k with
  | 0 => ("EvenBreaksModel", "st", "[I", true)
  | 1 => ("EvenBreaksModel", "past", "[I", true)
  | 2 => ("EvenBreaksModel", "undoMany", "I", false)
  | 3 => ("EvenBreaksModel", "seed", "I", false)
  | 4 => ("EvenBreaksModel", "typed", "[I", true)
  | 5 => ("EvenBreaksModel", "typedMany", "I", false)
  | 6 => ("EvenBreaksModel", "wrongAt", "I", false)
  | 7 => ("EvenBreaksModel", "newSizes", "[I", true)
  | 8 => ("EvenBreaksModel", "newLetters", "[I", true)
  | 9 => ("EvenBreaksModel", "newMany", "I", false)
  | 10 => ("EvenBreaksModel", "wide", "[I", true)
  | 11 => ("EvenBreaksModel", "upTo", "[I", true)
  | 12 => ("EvenBreaksModel", "costs", "[I", true)
  | 13 => ("EvenBreaksModel", "totals", "[I", true)
  | 14 => ("EvenBreaksModel", "owners", "[I", true)
  | 15 => ("EvenBreaksModel", "begins", "[I", true)
  | 16 => ("EvenBreaksModel", "linesMany", "I", false)
  | 17 => ("EvenBreaksModel", "with", "[I", true)
  | 18 => ("EvenBreaksModel", "seen", "[I", true)
  | 19 => ("EvenBreaksModel", "seenMany", "I", false)
  | 20 => ("EvenBreaksModel", "book", "[I", true)
  | 21 => ("EvenBreaksModel", "bookMany", "I", false)
  | 22 => ("EvenBreaksModel", "beginsBy", "[J", true)
  | 23 => ("EvenBreaksModel", "isBy", "[Z", true)
  | 24 => ("EvenBreaksModel", "byMany", "I", false)
  | 25 => ("EvenBreaksModel", "byLeast", "I", false)
  | 26 => ("EvenBreaksModel", "byGreatest", "I", false)
  | 27 => ("EvenBreaksModel", "images", "[I", true)
  | _ => ("EvenBreaksModel", "isKept", "[Z", true)
def tyX10 : Nat → FieldType := fun k => match k with
  | 0 => .array .int
  | 1 => .array .int
  | 2 => .int
  | 3 => .int
  | 4 => .array .int
  | 5 => .int
  | 6 => .int
  | 7 => .array .int
  | 8 => .array .int
  | 9 => .int
  | 10 => .array .int
  | 11 => .array .int
  | 12 => .array .int
  | 13 => .array .int
  | 14 => .array .int
  | 15 => .array .int
  | 16 => .int
  | 17 => .array .int
  | 18 => .array .int
  | 19 => .int
  | 20 => .array .int
  | 21 => .int
  | 22 => .array .long
  | 23 => .array .boolean
  | 24 => .int
  | 25 => .int
  | 26 => .int
  | 27 => .array .int
  | _ => .array .boolean
theorem nmX10 : ∀ a, a < 29 → ∀ b, b < 29 → a ≠ b → (TX10 a).2.1 ≠ (TX10 b).2.1 := by decide +kernel
theorem tyX10_ok : ∀ k, k < 29 → parseFieldDescriptor (TX10 k).2.2.1 = some (tyX10 k) := by decide +kernel
abbrev cX10_init : ByteArray := prog_12_method_1_code
def yX10_init : MethodName := ⟨RX10, "<init>", "()V"⟩
abbrev cX10_in : ByteArray := prog_12_method_2_code
def yX10_in : MethodName := ⟨RX10, "in", "(JJJ)Z"⟩
abbrev cX10_isWord : ByteArray := prog_12_method_3_code
def yX10_isWord : MethodName := ⟨RX10, "isWord", "(I)Z"⟩
abbrev cX10_isEnd : ByteArray := prog_12_method_4_code
def yX10_isEnd : MethodName := ⟨RX10, "isEnd", "(I)Z"⟩
abbrev cX10_feed : ByteArray := prog_12_method_5_code
def yX10_feed : MethodName := ⟨RX10, "feed", "(I)I"⟩
abbrev cX10_wrongs : ByteArray := prog_12_method_6_code
def yX10_wrongs : MethodName := ⟨RX10, "wrongs", "(II)I"⟩
abbrev cX10_readWords : ByteArray := prog_12_method_7_code
def yX10_readWords : MethodName := ⟨RX10, "readWords", "()I"⟩
abbrev cX10_takeWord : ByteArray := prog_12_method_8_code
def yX10_takeWord : MethodName := ⟨RX10, "takeWord", "(II)V"⟩
abbrev cX10_moveWord : ByteArray := prog_12_method_9_code
def yX10_moveWord : MethodName := ⟨RX10, "moveWord", "(II)V"⟩
abbrev cX10_clearWord : ByteArray := prog_12_method_10_code
def yX10_clearWord : MethodName := ⟨RX10, "clearWord", "(I)V"⟩
abbrev cX10_note : ByteArray := prog_12_method_11_code
def yX10_note : MethodName := ⟨RX10, "note", "()V"⟩
abbrev cX10_type : ByteArray := prog_12_method_12_code
def yX10_type : MethodName := ⟨RX10, "type", "()I"⟩
abbrev cX10_fault : ByteArray := prog_12_method_13_code
def yX10_fault : MethodName := ⟨RX10, "fault", "()I"⟩
abbrev cX10_widthOf : ByteArray := prog_12_method_14_code
def yX10_widthOf : MethodName := ⟨RX10, "widthOf", "(I)I"⟩
abbrev cX10_wordWidth : ByteArray := prog_12_method_15_code
def yX10_wordWidth : MethodName := ⟨RX10, "wordWidth", "(I)I"⟩
abbrev cX10_root : ByteArray := prog_12_method_16_code
def yX10_root : MethodName := ⟨RX10, "root", "(I)I"⟩
abbrev cX10_costBy : ByteArray := prog_12_method_17_code
def yX10_costBy : MethodName := ⟨RX10, "costBy", "(II)I"⟩
abbrev cX10_lineWidth : ByteArray := prog_12_method_18_code
def yX10_lineWidth : MethodName := ⟨RX10, "lineWidth", "(II)I"⟩
abbrev cX10_costOf : ByteArray := prog_12_method_19_code
def yX10_costOf : MethodName := ⟨RX10, "costOf", "(III)I"⟩
abbrev cX10_measureWords : ByteArray := prog_12_method_20_code
def yX10_measureWords : MethodName := ⟨RX10, "measureWords", "()V"⟩
abbrev cX10_layBy : ByteArray := prog_12_method_21_code
def yX10_layBy : MethodName := ⟨RX10, "layBy", "(I)V"⟩
abbrev cX10_lay : ByteArray := prog_12_method_22_code
def yX10_lay : MethodName := ⟨RX10, "lay", "()V"⟩
abbrev cX10_total : ByteArray := prog_12_method_23_code
def yX10_total : MethodName := ⟨RX10, "total", "()I"⟩
abbrev cX10_breakLines : ByteArray := prog_12_method_24_code
def yX10_breakLines : MethodName := ⟨RX10, "breakLines", "()V"⟩
abbrev cX10_layLines : ByteArray := prog_12_method_25_code
def yX10_layLines : MethodName := ⟨RX10, "layLines", "()V"⟩
abbrev cX10_beginSet : ByteArray := prog_12_method_26_code
def yX10_beginSet : MethodName := ⟨RX10, "beginSet", "()J"⟩
abbrev cX10_lineOf : ByteArray := prog_12_method_27_code
def yX10_lineOf : MethodName := ⟨RX10, "lineOf", "(I)I"⟩
abbrev cX10_growsOf : ByteArray := prog_12_method_28_code
def yX10_growsOf : MethodName := ⟨RX10, "growsOf", "(I)I"⟩
abbrev cX10_word : ByteArray := prog_12_method_29_code
def yX10_word : MethodName := ⟨RX10, "word", "(II)I"⟩
abbrev cX10_ownerBy : ByteArray := prog_12_method_30_code
def yX10_ownerBy : MethodName := ⟨RX10, "ownerBy", "(II)I"⟩
abbrev cX10_runsAt : ByteArray := prog_12_method_31_code
def yX10_runsAt : MethodName := ⟨RX10, "runsAt", "(I)I"⟩
abbrev cX10_end : ByteArray := prog_12_method_32_code
def yX10_end : MethodName := ⟨RX10, "end", "(II)I"⟩
abbrev cX10_line : ByteArray := prog_12_method_33_code
def yX10_line : MethodName := ⟨RX10, "line", "(II)I"⟩
abbrev cX10_cost : ByteArray := prog_12_method_34_code
def yX10_cost : MethodName := ⟨RX10, "cost", "(II)I"⟩
abbrev cX10_readOne : ByteArray := prog_12_method_35_code
def yX10_readOne : MethodName := ⟨RX10, "readOne", "()I"⟩
abbrev cX10_change : ByteArray := prog_12_method_36_code
def yX10_change : MethodName := ⟨RX10, "change", "(I)I"⟩
abbrev cX10_putIn : ByteArray := prog_12_method_37_code
def yX10_putIn : MethodName := ⟨RX10, "putIn", "(I)V"⟩
abbrev cX10_insert : ByteArray := prog_12_method_38_code
def yX10_insert : MethodName := ⟨RX10, "insert", "(I)I"⟩
abbrev cX10_take : ByteArray := prog_12_method_39_code
def yX10_take : MethodName := ⟨RX10, "take", "(I)I"⟩
abbrev cX10_becomes : ByteArray := prog_12_method_40_code
def yX10_becomes : MethodName := ⟨RX10, "becomes", "(IIII)I"⟩
abbrev cX10_measure : ByteArray := prog_12_method_41_code
def yX10_measure : MethodName := ⟨RX10, "measure", "(I)I"⟩
abbrev cX10_rule : ByteArray := prog_12_method_42_code
def yX10_rule : MethodName := ⟨RX10, "rule", "(I)I"⟩
abbrev cX10_fee : ByteArray := prog_12_method_43_code
def yX10_fee : MethodName := ⟨RX10, "fee", "(I)I"⟩
abbrev cX10_free : ByteArray := prog_12_method_44_code
def yX10_free : MethodName := ⟨RX10, "free", "(Z)I"⟩
abbrev cX10_drawOf : ByteArray := prog_12_method_45_code
def yX10_drawOf : MethodName := ⟨RX10, "drawOf", "(I)I"⟩
abbrev cX10_drift : ByteArray := prog_12_method_46_code
def yX10_drift : MethodName := ⟨RX10, "drift", "(I)I"⟩
abbrev cX10_undo : ByteArray := prog_12_method_47_code
def yX10_undo : MethodName := ⟨RX10, "undo", "(I)I"⟩
abbrev cX10_firstOf : ByteArray := prog_12_method_48_code
def yX10_firstOf : MethodName := ⟨RX10, "firstOf", "(I)I"⟩
abbrev cX10_first : ByteArray := prog_12_method_49_code
def yX10_first : MethodName := ⟨RX10, "first", "(I)I"⟩
abbrev cX10_known : ByteArray := prog_12_method_50_code
def yX10_known : MethodName := ⟨RX10, "known", "(II)I"⟩
abbrev cX10_with : ByteArray := prog_12_method_51_code
def yX10_with : MethodName := ⟨RX10, "with", "(I)I"⟩
abbrev cX10_best : ByteArray := prog_12_method_52_code
def yX10_best : MethodName := ⟨RX10, "best", "(III)I"⟩
abbrev cX10_rivers : ByteArray := prog_12_method_53_code
def yX10_rivers : MethodName := ⟨RX10, "rivers", "()I"⟩
abbrev cX10_layMeasures : ByteArray := prog_12_method_54_code
def yX10_layMeasures : MethodName := ⟨RX10, "layMeasures", "()V"⟩
abbrev cX10_lookOf : ByteArray := prog_12_method_55_code
def yX10_lookOf : MethodName := ⟨RX10, "lookOf", "()I"⟩
abbrev cX10_see : ByteArray := prog_12_method_56_code
def yX10_see : MethodName := ⟨RX10, "see", "(IZ)I"⟩
abbrev cX10_write : ByteArray := prog_12_method_57_code
def yX10_write : MethodName := ⟨RX10, "write", "(II)I"⟩
abbrev cX10_wrongEntry : ByteArray := prog_12_method_58_code
def yX10_wrongEntry : MethodName := ⟨RX10, "wrongEntry", "()I"⟩
abbrev cX10_tear : ByteArray := prog_12_method_59_code
def yX10_tear : MethodName := ⟨RX10, "tear", "()I"⟩
abbrev cX10_seed : ByteArray := prog_12_method_60_code
def yX10_seed : MethodName := ⟨RX10, "seed", "(I)I"⟩
abbrev cX10_keep : ByteArray := prog_12_method_61_code
def yX10_keep : MethodName := ⟨RX10, "keep", "(I)I"⟩
abbrev cX10_goBack : ByteArray := prog_12_method_62_code
def yX10_goBack : MethodName := ⟨RX10, "goBack", "(I)I"⟩
abbrev cX10_toldLines : ByteArray := prog_12_method_63_code
def yX10_toldLines : MethodName := ⟨RX10, "toldLines", "(I)I"⟩
abbrev cX10_toldMeasures : ByteArray := prog_12_method_64_code
def yX10_toldMeasures : MethodName := ⟨RX10, "toldMeasures", "(I)I"⟩
abbrev cX10_told : ByteArray := prog_12_method_65_code
def yX10_told : MethodName := ⟨RX10, "told", "(I)I"⟩
def RJ9 : String := "java/lang/Math"
def RJ10 : String := "java/lang/System"
def RL : String := "EvenBreaksLaw"
abbrev cL_law : ByteArray := code
def yL_law : MethodName := ⟨RL, "law", "([I)Z"⟩
abbrev vwCl : List vw_C := [(RX0, TX0, 3), (RX1, TX1, 1), (RX2, TX2, 3), (RX3, TX3, 13), (RX4, TX4, 3), (RX6, TX6, 6), (RX7, TX7, 6), (RX8, TX8, 5), (RX9, TX9, 9), (RX10, TX10, 29)]
abbrev eb_M : Type := (MethodName × ByteArray × Nat × Option FieldType) × (Nat × Nat × Nat × Nat)
def yJ_max : MethodName := ⟨"java/lang/Math", "max", "(II)I"⟩
abbrev cJ_max : ByteArray := prog_13_method_65_code
abbrev mJ_max : eb_M := ((yJ_max, cJ_max, 2, (Option.some Jvm.ClassFile.FieldType.int)), (99, 0, 0, 0))
def yJ_min : MethodName := ⟨"java/lang/Math", "min", "(II)I"⟩
abbrev cJ_min : ByteArray := prog_13_method_69_code
abbrev mJ_min : eb_M := ((yJ_min, cJ_min, 2, (Option.some Jvm.ClassFile.FieldType.int)), (99, 0, 0, 0))
abbrev mX0_add : eb_M := ((yX0_add, cX0_add, 3, (Option.some Jvm.ClassFile.FieldType.int)), (0, 0, 0, 0))
abbrev mX0_firstWrong : eb_M := ((yX0_firstWrong, cX0_firstWrong, 3, (Option.some Jvm.ClassFile.FieldType.int)), (0, 1, 0, 0))
abbrev mX0_init : eb_M := ((yX0_init, cX0_init, 1, (Option.none : Option Jvm.ClassFile.FieldType)), (0, 1, 2, 40))
abbrev mX10_becomes : eb_M := ((yX10_becomes, cX10_becomes, 5, (Option.some Jvm.ClassFile.FieldType.int)), (9, 6, 0, 0))
abbrev mX10_beginSet : eb_M := ((yX10_beginSet, cX10_beginSet, 4, (Option.some Jvm.ClassFile.FieldType.long)), (9, 0, 0, 0))
abbrev mX10_best : eb_M := ((yX10_best, cX10_best, 8, (Option.some Jvm.ClassFile.FieldType.int)), (9, 4, 0, 0))
abbrev mX10_breakLines : eb_M := ((yX10_breakLines, cX10_breakLines, 4, (Option.none : Option Jvm.ClassFile.FieldType)), (9, 0, 0, 0))
abbrev mX10_change : eb_M := ((yX10_change, cX10_change, 3, (Option.some Jvm.ClassFile.FieldType.int)), (9, 3, 0, 0))
abbrev mX10_clearWord : eb_M := ((yX10_clearWord, cX10_clearWord, 3, (Option.none : Option Jvm.ClassFile.FieldType)), (9, 0, 0, 0))
abbrev mX10_cost : eb_M := ((yX10_cost, cX10_cost, 3, (Option.some Jvm.ClassFile.FieldType.int)), (9, 5, 0, 0))
abbrev mX10_costBy : eb_M := ((yX10_costBy, cX10_costBy, 3, (Option.some Jvm.ClassFile.FieldType.int)), (9, 1, 0, 0))
abbrev mX10_costOf : eb_M := ((yX10_costOf, cX10_costOf, 5, (Option.some Jvm.ClassFile.FieldType.int)), (9, 2, 0, 0))
abbrev mX10_drawOf : eb_M := ((yX10_drawOf, cX10_drawOf, 2, (Option.some Jvm.ClassFile.FieldType.int)), (9, 0, 0, 0))
abbrev mX10_drift : eb_M := ((yX10_drift, cX10_drift, 4, (Option.some Jvm.ClassFile.FieldType.int)), (9, 2, 0, 0))
abbrev mX10_end : eb_M := ((yX10_end, cX10_end, 3, (Option.some Jvm.ClassFile.FieldType.int)), (9, 6, 0, 0))
abbrev mX10_fault : eb_M := ((yX10_fault, cX10_fault, 1, (Option.some Jvm.ClassFile.FieldType.int)), (9, 0, 0, 0))
abbrev mX10_fee : eb_M := ((yX10_fee, cX10_fee, 2, (Option.some Jvm.ClassFile.FieldType.int)), (9, 7, 0, 0))
abbrev mX10_feed : eb_M := ((yX10_feed, cX10_feed, 2, (Option.some Jvm.ClassFile.FieldType.int)), (9, 1, 0, 0))
abbrev mX10_first : eb_M := ((yX10_first, cX10_first, 2, (Option.some Jvm.ClassFile.FieldType.int)), (9, 6, 0, 0))
abbrev mX10_firstOf : eb_M := ((yX10_firstOf, cX10_firstOf, 9, (Option.some Jvm.ClassFile.FieldType.int)), (9, 5, 0, 0))
abbrev mX10_free : eb_M := ((yX10_free, cX10_free, 2, (Option.some Jvm.ClassFile.FieldType.int)), (9, 7, 0, 0))
abbrev mX10_goBack : eb_M := ((yX10_goBack, cX10_goBack, 3, (Option.some Jvm.ClassFile.FieldType.int)), (9, 1, 0, 0))
abbrev mX10_growsOf : eb_M := ((yX10_growsOf, cX10_growsOf, 6, (Option.some Jvm.ClassFile.FieldType.int)), (9, 6, 0, 0))
abbrev mX10_in : eb_M := ((yX10_in, cX10_in, 6, (Option.some Jvm.ClassFile.FieldType.boolean)), (9, 0, 0, 0))
abbrev mX10_init : eb_M := ((yX10_init, cX10_init, 1, (Option.none : Option Jvm.ClassFile.FieldType)), (9, 1, 60, 20000))
abbrev mX10_insert : eb_M := ((yX10_insert, cX10_insert, 3, (Option.some Jvm.ClassFile.FieldType.int)), (9, 3, 0, 0))
abbrev mX10_isEnd : eb_M := ((yX10_isEnd, cX10_isEnd, 2, (Option.some Jvm.ClassFile.FieldType.boolean)), (9, 1, 0, 0))
abbrev mX10_isWord : eb_M := ((yX10_isWord, cX10_isWord, 2, (Option.some Jvm.ClassFile.FieldType.boolean)), (9, 1, 0, 0))
abbrev mX10_keep : eb_M := ((yX10_keep, cX10_keep, 3, (Option.some Jvm.ClassFile.FieldType.int)), (9, 1, 0, 0))
abbrev mX10_known : eb_M := ((yX10_known, cX10_known, 3, (Option.some Jvm.ClassFile.FieldType.int)), (9, 5, 0, 0))
abbrev mX10_lay : eb_M := ((yX10_lay, cX10_lay, 1, (Option.none : Option Jvm.ClassFile.FieldType)), (9, 4, 0, 0))
abbrev mX10_layBy : eb_M := ((yX10_layBy, cX10_layBy, 6, (Option.none : Option Jvm.ClassFile.FieldType)), (9, 3, 0, 0))
abbrev mX10_layLines : eb_M := ((yX10_layLines, cX10_layLines, 1, (Option.none : Option Jvm.ClassFile.FieldType)), (9, 5, 0, 0))
abbrev mX10_layMeasures : eb_M := ((yX10_layMeasures, cX10_layMeasures, 4, (Option.none : Option Jvm.ClassFile.FieldType)), (9, 4, 0, 0))
abbrev mX10_line : eb_M := ((yX10_line, cX10_line, 3, (Option.some Jvm.ClassFile.FieldType.int)), (9, 6, 0, 0))
abbrev mX10_lineOf : eb_M := ((yX10_lineOf, cX10_lineOf, 3, (Option.some Jvm.ClassFile.FieldType.int)), (9, 6, 0, 0))
abbrev mX10_lineWidth : eb_M := ((yX10_lineWidth, cX10_lineWidth, 3, (Option.some Jvm.ClassFile.FieldType.int)), (9, 0, 0, 0))
abbrev mX10_lookOf : eb_M := ((yX10_lookOf, cX10_lookOf, 6, (Option.some Jvm.ClassFile.FieldType.int)), (9, 5, 0, 0))
abbrev mX10_measure : eb_M := ((yX10_measure, cX10_measure, 2, (Option.some Jvm.ClassFile.FieldType.int)), (9, 7, 0, 0))
abbrev mX10_measureWords : eb_M := ((yX10_measureWords, cX10_measureWords, 2, (Option.none : Option Jvm.ClassFile.FieldType)), (9, 2, 0, 0))
abbrev mX10_moveWord : eb_M := ((yX10_moveWord, cX10_moveWord, 4, (Option.none : Option Jvm.ClassFile.FieldType)), (9, 0, 0, 0))
abbrev mX10_note : eb_M := ((yX10_note, cX10_note, 2, (Option.none : Option Jvm.ClassFile.FieldType)), (9, 0, 0, 0))
abbrev mX10_ownerBy : eb_M := ((yX10_ownerBy, cX10_ownerBy, 7, (Option.some Jvm.ClassFile.FieldType.int)), (9, 0, 0, 0))
abbrev mX10_putIn : eb_M := ((yX10_putIn, cX10_putIn, 3, (Option.none : Option Jvm.ClassFile.FieldType)), (9, 1, 0, 0))
abbrev mX10_readOne : eb_M := ((yX10_readOne, cX10_readOne, 2, (Option.some Jvm.ClassFile.FieldType.int)), (9, 2, 0, 0))
abbrev mX10_readWords : eb_M := ((yX10_readWords, cX10_readWords, 5, (Option.some Jvm.ClassFile.FieldType.int)), (9, 1, 0, 0))
abbrev mX10_rivers : eb_M := ((yX10_rivers, cX10_rivers, 5, (Option.some Jvm.ClassFile.FieldType.int)), (9, 6, 0, 0))
abbrev mX10_root : eb_M := ((yX10_root, cX10_root, 3, (Option.some Jvm.ClassFile.FieldType.int)), (9, 0, 0, 0))
abbrev mX10_rule : eb_M := ((yX10_rule, cX10_rule, 2, (Option.some Jvm.ClassFile.FieldType.int)), (9, 7, 0, 0))
abbrev mX10_runsAt : eb_M := ((yX10_runsAt, cX10_runsAt, 6, (Option.some Jvm.ClassFile.FieldType.int)), (9, 5, 0, 0))
abbrev mX10_see : eb_M := ((yX10_see, cX10_see, 3, (Option.some Jvm.ClassFile.FieldType.int)), (9, 2, 0, 0))
abbrev mX10_seed : eb_M := ((yX10_seed, cX10_seed, 3, (Option.some Jvm.ClassFile.FieldType.int)), (9, 0, 0, 0))
abbrev mX10_take : eb_M := ((yX10_take, cX10_take, 4, (Option.some Jvm.ClassFile.FieldType.int)), (9, 2, 0, 0))
abbrev mX10_takeWord : eb_M := ((yX10_takeWord, cX10_takeWord, 4, (Option.none : Option Jvm.ClassFile.FieldType)), (9, 0, 0, 0))
abbrev mX10_tear : eb_M := ((yX10_tear, cX10_tear, 2, (Option.some Jvm.ClassFile.FieldType.int)), (9, 0, 0, 0))
abbrev mX10_told : eb_M := ((yX10_told, cX10_told, 2, (Option.some Jvm.ClassFile.FieldType.int)), (9, 7, 0, 0))
abbrev mX10_toldLines : eb_M := ((yX10_toldLines, cX10_toldLines, 2, (Option.some Jvm.ClassFile.FieldType.int)), (9, 6, 0, 0))
abbrev mX10_toldMeasures : eb_M := ((yX10_toldMeasures, cX10_toldMeasures, 2, (Option.some Jvm.ClassFile.FieldType.int)), (9, 5, 0, 0))
abbrev mX10_total : eb_M := ((yX10_total, cX10_total, 1, (Option.some Jvm.ClassFile.FieldType.int)), (9, 5, 0, 0))
abbrev mX10_type : eb_M := ((yX10_type, cX10_type, 3, (Option.some Jvm.ClassFile.FieldType.int)), (9, 2, 0, 0))
abbrev mX10_undo : eb_M := ((yX10_undo, cX10_undo, 3, (Option.some Jvm.ClassFile.FieldType.int)), (9, 1, 0, 0))
abbrev mX10_widthOf : eb_M := ((yX10_widthOf, cX10_widthOf, 1, (Option.some Jvm.ClassFile.FieldType.int)), (9, 0, 0, 0))
abbrev mX10_with : eb_M := ((yX10_with, cX10_with, 8, (Option.some Jvm.ClassFile.FieldType.int)), (9, 5, 0, 0))
abbrev mX10_word : eb_M := ((yX10_word, cX10_word, 3, (Option.some Jvm.ClassFile.FieldType.int)), (9, 7, 0, 0))
abbrev mX10_wordWidth : eb_M := ((yX10_wordWidth, cX10_wordWidth, 4, (Option.some Jvm.ClassFile.FieldType.int)), (9, 1, 0, 0))
abbrev mX10_write : eb_M := ((yX10_write, cX10_write, 3, (Option.some Jvm.ClassFile.FieldType.int)), (9, 2, 0, 0))
abbrev mX10_wrongEntry : eb_M := ((yX10_wrongEntry, cX10_wrongEntry, 4, (Option.some Jvm.ClassFile.FieldType.int)), (9, 6, 0, 0))
abbrev mX10_wrongs : eb_M := ((yX10_wrongs, cX10_wrongs, 3, (Option.some Jvm.ClassFile.FieldType.int)), (9, 0, 0, 0))
abbrev mX1_draw : eb_M := ((yX1_draw, cX1_draw, 2, (Option.some Jvm.ClassFile.FieldType.int)), (1, 0, 0, 0))
abbrev mX1_drawWord : eb_M := ((yX1_drawWord, cX1_drawWord, 5, (Option.some Jvm.ClassFile.FieldType.long)), (1, 1, 0, 0))
abbrev mX1_init : eb_M := ((yX1_init, cX1_init, 1, (Option.none : Option Jvm.ClassFile.FieldType)), (1, 1, 0, 0))
abbrev mX2_init : eb_M := ((yX2_init, cX2_init, 1, (Option.none : Option Jvm.ClassFile.FieldType)), (2, 2, 2, 46))
abbrev mX3_beginOf : eb_M := ((yX3_beginOf, cX3_beginOf, 2, (Option.some Jvm.ClassFile.FieldType.int)), (3, 0, 0, 0))
abbrev mX3_endOf : eb_M := ((yX3_endOf, cX3_endOf, 2, (Option.some Jvm.ClassFile.FieldType.int)), (3, 0, 0, 0))
abbrev mX3_firstCrossed : eb_M := ((yX3_firstCrossed, cX3_firstCrossed, 5, (Option.some Jvm.ClassFile.FieldType.int)), (3, 4, 0, 0))
abbrev mX3_firstFall : eb_M := ((yX3_firstFall, cX3_firstFall, 7, (Option.some Jvm.ClassFile.FieldType.int)), (3, 3, 0, 0))
abbrev mX3_hasGapAt : eb_M := ((yX3_hasGapAt, cX3_hasGapAt, 5, (Option.some Jvm.ClassFile.FieldType.boolean)), (3, 1, 0, 0))
abbrev mX3_init : eb_M := ((yX3_init, cX3_init, 2, (Option.none : Option Jvm.ClassFile.FieldType)), (3, 1, 5, 205))
abbrev mX3_isBegin : eb_M := ((yX3_isBegin, cX3_isBegin, 2, (Option.some Jvm.ClassFile.FieldType.boolean)), (3, 0, 0, 0))
abbrev mX3_lastTotal : eb_M := ((yX3_lastTotal, cX3_lastTotal, 1, (Option.some Jvm.ClassFile.FieldType.int)), (3, 0, 0, 0))
abbrev mX3_layLines : eb_M := ((yX3_layLines, cX3_layLines, 3, (Option.none : Option Jvm.ClassFile.FieldType)), (3, 1, 0, 0))
abbrev mX3_leastWithLines : eb_M := ((yX3_leastWithLines, cX3_leastWithLines, 4, (Option.some Jvm.ClassFile.FieldType.int)), (3, 4, 0, 0))
abbrev mX3_leastWithOneMore : eb_M := ((yX3_leastWithOneMore, cX3_leastWithOneMore, 6, (Option.some Jvm.ClassFile.FieldType.int)), (3, 3, 0, 0))
abbrev mX3_lineOf : eb_M := ((yX3_lineOf, cX3_lineOf, 3, (Option.some Jvm.ClassFile.FieldType.int)), (3, 0, 0, 0))
abbrev mX3_load : eb_M := ((yX3_load, cX3_load, 3, (Option.none : Option Jvm.ClassFile.FieldType)), (3, 3, 0, 0))
abbrev mX3_loosePrice : eb_M := ((yX3_loosePrice, cX3_loosePrice, 2, (Option.some Jvm.ClassFile.FieldType.int)), (3, 0, 0, 0))
abbrev mX3_ownerKnownTo : eb_M := ((yX3_ownerKnownTo, cX3_ownerKnownTo, 7, (Option.some Jvm.ClassFile.FieldType.int)), (3, 3, 0, 0))
abbrev mX3_price : eb_M := ((yX3_price, cX3_price, 3, (Option.some Jvm.ClassFile.FieldType.int)), (3, 2, 0, 0))
abbrev mX3_priceOf : eb_M := ((yX3_priceOf, cX3_priceOf, 3, (Option.some Jvm.ClassFile.FieldType.int)), (3, 1, 0, 0))
abbrev mX3_rivers : eb_M := ((yX3_rivers, cX3_rivers, 5, (Option.some Jvm.ClassFile.FieldType.int)), (3, 2, 0, 0))
abbrev mX3_runsAt : eb_M := ((yX3_runsAt, cX3_runsAt, 6, (Option.some Jvm.ClassFile.FieldType.int)), (3, 4, 0, 0))
abbrev mX3_settle : eb_M := ((yX3_settle, cX3_settle, 7, (Option.none : Option Jvm.ClassFile.FieldType)), (3, 2, 0, 0))
abbrev mX3_solve : eb_M := ((yX3_solve, cX3_solve, 2, (Option.none : Option Jvm.ClassFile.FieldType)), (3, 3, 0, 0))
abbrev mX3_tightPrice : eb_M := ((yX3_tightPrice, cX3_tightPrice, 2, (Option.some Jvm.ClassFile.FieldType.int)), (3, 0, 0, 0))
abbrev mX3_widen : eb_M := ((yX3_widen, cX3_widen, 4, (Option.none : Option Jvm.ClassFile.FieldType)), (3, 0, 0, 0))
abbrev mX3_widthOf : eb_M := ((yX3_widthOf, cX3_widthOf, 3, (Option.some Jvm.ClassFile.FieldType.int)), (3, 0, 0, 0))
abbrev mX4_giveBack : eb_M := ((yX4_giveBack, cX4_giveBack, 3, (Option.none : Option Jvm.ClassFile.FieldType)), (4, 3, 0, 0))
abbrev mX4_init : eb_M := ((yX4_init, cX4_init, 2, (Option.none : Option Jvm.ClassFile.FieldType)), (4, 2, 33, 752))
abbrev mX4_remember : eb_M := ((yX4_remember, cX4_remember, 2, (Option.none : Option Jvm.ClassFile.FieldType)), (4, 3, 0, 0))
abbrev mX5_lengthOf : eb_M := ((yX5_lengthOf, cX5_lengthOf, 3, (Option.some Jvm.ClassFile.FieldType.int)), (99, 1, 0, 0))
abbrev mX5_letterAt : eb_M := ((yX5_letterAt, cX5_letterAt, 4, (Option.some Jvm.ClassFile.FieldType.int)), (99, 0, 0, 0))
abbrev mX5_letterWidth : eb_M := ((yX5_letterWidth, cX5_letterWidth, 1, (Option.some Jvm.ClassFile.FieldType.int)), (99, 0, 0, 0))
abbrev mX5_widthOf : eb_M := ((yX5_widthOf, cX5_widthOf, 5, (Option.some Jvm.ClassFile.FieldType.int)), (99, 2, 0, 0))
abbrev mX5_withLetter : eb_M := ((yX5_withLetter, cX5_withLetter, 4, (Option.some Jvm.ClassFile.FieldType.long)), (99, 0, 0, 0))
abbrev mX6_bestMeasure : eb_M := ((yX6_bestMeasure, cX6_bestMeasure, 5, (Option.some Jvm.ClassFile.FieldType.int)), (5, 0, 0, 0))
abbrev mX6_fill : eb_M := ((yX6_fill, cX6_fill, 3, (Option.none : Option Jvm.ClassFile.FieldType)), (5, 4, 0, 0))
abbrev mX6_fits : eb_M := ((yX6_fits, cX6_fits, 2, (Option.some Jvm.ClassFile.FieldType.boolean)), (5, 0, 0, 0))
abbrev mX6_fitting : eb_M := ((yX6_fitting, cX6_fitting, 3, (Option.some Jvm.ClassFile.FieldType.int)), (5, 1, 0, 0))
abbrev mX6_fittingThatBegin : eb_M := ((yX6_fittingThatBegin, cX6_fittingThatBegin, 4, (Option.some Jvm.ClassFile.FieldType.int)), (5, 1, 0, 0))
abbrev mX6_forget : eb_M := ((yX6_forget, cX6_forget, 1, (Option.none : Option Jvm.ClassFile.FieldType)), (5, 0, 0, 0))
abbrev mX6_greatestFitting : eb_M := ((yX6_greatestFitting, cX6_greatestFitting, 2, (Option.some Jvm.ClassFile.FieldType.int)), (5, 1, 0, 0))
abbrev mX6_init : eb_M := ((yX6_init, cX6_init, 1, (Option.none : Option Jvm.ClassFile.FieldType)), (5, 1, 2, 402))
abbrev mX6_leastFitting : eb_M := ((yX6_leastFitting, cX6_leastFitting, 2, (Option.some Jvm.ClassFile.FieldType.int)), (5, 1, 0, 0))
abbrev mX6_look : eb_M := ((yX6_look, cX6_look, 8, (Option.some Jvm.ClassFile.FieldType.int)), (5, 2, 0, 0))
abbrev mX6_note : eb_M := ((yX6_note, cX6_note, 3, (Option.some Jvm.ClassFile.FieldType.int)), (5, 0, 0, 0))
abbrev mX7_become : eb_M := ((yX7_become, cX7_become, 2, (Option.none : Option Jvm.ClassFile.FieldType)), (6, 2, 0, 0))
abbrev mX7_hasEnd : eb_M := ((yX7_hasEnd, cX7_hasEnd, 2, (Option.some Jvm.ClassFile.FieldType.boolean)), (6, 0, 0, 0))
abbrev mX7_hasWord : eb_M := ((yX7_hasWord, cX7_hasWord, 2, (Option.some Jvm.ClassFile.FieldType.boolean)), (6, 0, 0, 0))
abbrev mX7_init : eb_M := ((yX7_init, cX7_init, 1, (Option.none : Option Jvm.ClassFile.FieldType)), (6, 1, 1, 40))
abbrev mX7_putIn : eb_M := ((yX7_putIn, cX7_putIn, 5, (Option.none : Option Jvm.ClassFile.FieldType)), (6, 1, 0, 0))
abbrev mX7_setWords : eb_M := ((yX7_setWords, cX7_setWords, 3, (Option.none : Option Jvm.ClassFile.FieldType)), (6, 1, 0, 0))
abbrev mX7_takeOut : eb_M := ((yX7_takeOut, cX7_takeOut, 3, (Option.none : Option Jvm.ClassFile.FieldType)), (6, 1, 0, 0))
abbrev mX8_add : eb_M := ((yX8_add, cX8_add, 2, (Option.some Jvm.ClassFile.FieldType.int)), (7, 0, 0, 0))
abbrev mX8_addToWord : eb_M := ((yX8_addToWord, cX8_addToWord, 4, (Option.none : Option Jvm.ClassFile.FieldType)), (7, 1, 0, 0))
abbrev mX8_faultOf : eb_M := ((yX8_faultOf, cX8_faultOf, 3, (Option.some Jvm.ClassFile.FieldType.int)), (7, 0, 0, 0))
abbrev mX8_init : eb_M := ((yX8_init, cX8_init, 1, (Option.none : Option Jvm.ClassFile.FieldType)), (7, 1, 2, 280))
abbrev mX8_read : eb_M := ((yX8_read, cX8_read, 5, (Option.some Jvm.ClassFile.FieldType.int)), (7, 2, 0, 0))
abbrev mX9_best : eb_M := ((yX9_best, cX9_best, 6, (Option.some Jvm.ClassFile.FieldType.int)), (8, 6, 0, 0))
abbrev mX9_change : eb_M := ((yX9_change, cX9_change, 3, (Option.some Jvm.ClassFile.FieldType.int)), (8, 5, 0, 0))
abbrev mX9_cost : eb_M := ((yX9_cost, cX9_cost, 3, (Option.some Jvm.ClassFile.FieldType.int)), (8, 3, 0, 0))
abbrev mX9_drift : eb_M := ((yX9_drift, cX9_drift, 3, (Option.some Jvm.ClassFile.FieldType.int)), (8, 5, 0, 0))
abbrev mX9_driftOnce : eb_M := ((yX9_driftOnce, cX9_driftOnce, 3, (Option.none : Option Jvm.ClassFile.FieldType)), (8, 2, 0, 0))
abbrev mX9_end : eb_M := ((yX9_end, cX9_end, 3, (Option.some Jvm.ClassFile.FieldType.int)), (8, 5, 0, 0))
abbrev mX9_fault : eb_M := ((yX9_fault, cX9_fault, 1, (Option.some Jvm.ClassFile.FieldType.int)), (8, 0, 0, 0))
abbrev mX9_fee : eb_M := ((yX9_fee, cX9_fee, 2, (Option.some Jvm.ClassFile.FieldType.int)), (8, 5, 0, 0))
abbrev mX9_feed : eb_M := ((yX9_feed, cX9_feed, 2, (Option.some Jvm.ClassFile.FieldType.int)), (8, 1, 0, 0))
abbrev mX9_first : eb_M := ((yX9_first, cX9_first, 2, (Option.some Jvm.ClassFile.FieldType.int)), (8, 5, 0, 0))
abbrev mX9_free : eb_M := ((yX9_free, cX9_free, 2, (Option.some Jvm.ClassFile.FieldType.int)), (8, 5, 0, 0))
abbrev mX9_goBack : eb_M := ((yX9_goBack, cX9_goBack, 2, (Option.some Jvm.ClassFile.FieldType.int)), (8, 5, 0, 0))
abbrev mX9_grows : eb_M := ((yX9_grows, cX9_grows, 3, (Option.some Jvm.ClassFile.FieldType.int)), (8, 4, 0, 0))
abbrev mX9_init : eb_M := ((yX9_init, cX9_init, 3, (Option.none : Option Jvm.ClassFile.FieldType)), (8, 5, 200, 10000))
abbrev mX9_insert : eb_M := ((yX9_insert, cX9_insert, 3, (Option.some Jvm.ClassFile.FieldType.int)), (8, 5, 0, 0))
abbrev mX9_keep : eb_M := ((yX9_keep, cX9_keep, 2, (Option.some Jvm.ClassFile.FieldType.int)), (8, 3, 0, 0))
abbrev mX9_known : eb_M := ((yX9_known, cX9_known, 3, (Option.some Jvm.ClassFile.FieldType.int)), (8, 4, 0, 0))
abbrev mX9_layAnew : eb_M := ((yX9_layAnew, cX9_layAnew, 1, (Option.none : Option Jvm.ClassFile.FieldType)), (8, 4, 0, 0))
abbrev mX9_line : eb_M := ((yX9_line, cX9_line, 5, (Option.some Jvm.ClassFile.FieldType.int)), (8, 3, 0, 0))
abbrev mX9_measure : eb_M := ((yX9_measure, cX9_measure, 2, (Option.some Jvm.ClassFile.FieldType.int)), (8, 5, 0, 0))
abbrev mX9_readOneWord : eb_M := ((yX9_readOneWord, cX9_readOneWord, 2, (Option.some Jvm.ClassFile.FieldType.int)), (8, 3, 0, 0))
abbrev mX9_rule : eb_M := ((yX9_rule, cX9_rule, 2, (Option.some Jvm.ClassFile.FieldType.int)), (8, 5, 0, 0))
abbrev mX9_see : eb_M := ((yX9_see, cX9_see, 3, (Option.some Jvm.ClassFile.FieldType.int)), (8, 1, 0, 0))
abbrev mX9_seed : eb_M := ((yX9_seed, cX9_seed, 3, (Option.some Jvm.ClassFile.FieldType.int)), (8, 0, 0, 0))
abbrev mX9_surveyed : eb_M := ((yX9_surveyed, cX9_surveyed, 1, (Option.some (Jvm.ClassFile.FieldType.object "EvenBreaks$Survey"))), (8, 5, 0, 0))
abbrev mX9_tableOfRoots : eb_M := ((yX9_tableOfRoots, cX9_tableOfRoots, 3, (Option.some (Jvm.ClassFile.FieldType.array Jvm.ClassFile.FieldType.int))), (8, 0, 1, 200))
abbrev mX9_take : eb_M := ((yX9_take, cX9_take, 3, (Option.some Jvm.ClassFile.FieldType.int)), (8, 5, 0, 0))
abbrev mX9_tear : eb_M := ((yX9_tear, cX9_tear, 2, (Option.some Jvm.ClassFile.FieldType.int)), (8, 1, 0, 0))
abbrev mX9_told : eb_M := ((yX9_told, cX9_told, 2, (Option.some Jvm.ClassFile.FieldType.int)), (8, 6, 0, 0))
abbrev mX9_type : eb_M := ((yX9_type, cX9_type, 2, (Option.some Jvm.ClassFile.FieldType.int)), (8, 5, 0, 0))
abbrev mX9_undo : eb_M := ((yX9_undo, cX9_undo, 2, (Option.some Jvm.ClassFile.FieldType.int)), (8, 5, 0, 0))
abbrev mX9_with : eb_M := ((yX9_with, cX9_with, 2, (Option.some Jvm.ClassFile.FieldType.int)), (8, 5, 0, 0))
abbrev mX9_word : eb_M := ((yX9_word, cX9_word, 3, (Option.some Jvm.ClassFile.FieldType.int)), (8, 5, 0, 0))
abbrev mX9_write : eb_M := ((yX9_write, cX9_write, 3, (Option.some Jvm.ClassFile.FieldType.int)), (8, 1, 0, 0))
end
section
/-! The pure side: cells by their number, from a base on; a method's walk as a relation between pure states. -/
abbrev eb_H : Type := Nat → va_E
abbrev eb_Z : Type := Nat × Nat × Nat
abbrev eb_y (M : eb_M) : MethodName := M.1.1
abbrev eb_code (M : eb_M) : ByteArray := M.1.2.1
abbrev eb_nl (M : eb_M) : Nat := M.1.2.2.1
abbrev eb_ret (M : eb_M) : Option FieldType := M.1.2.2.2
abbrev eb_ci (M : eb_M) : Nat := M.2.1
abbrev eb_lv (M : eb_M) : Nat := M.2.2.1
abbrev eb_mc (M : eb_M) : Nat := M.2.2.2.1
abbrev eb_ms (M : eb_M) : Nat := M.2.2.2.2
def eb_v (b0 bs : Nat) (v : Value) : Value := match v with
  | .ref k => .ref (bs + k)
  | .retAddr _ => .ref b0
  | v => v
def eb_e (cs : Nat → ClassId) (b0 bs : Nat) (e : va_E) : va_E := match e with
  | .inl (t, n, .inl f) => .inl (cs t, n, .inl f)
  | .inl (t, n, .inr (.inl f)) => .inl (cs t, n, .inr (.inl f))
  | .inl (t, n, .inr (.inr (.inl f))) => .inl (cs t, n, .inr (.inr (.inl f)))
  | .inl (t, n, .inr (.inr (.inr (.inl f)))) => .inl (cs t, n, .inr (.inr (.inr (.inl f))))
  | .inl (t, n, .inr (.inr (.inr (.inr f)))) => .inl (cs t, n, .inr (.inr (.inr (.inr (fun i => (f i).map (fun k => bs + k))))))
  | .inr (c, fs) => .inr (c, fs.map (eb_v b0 bs))
def eb_w (cs : Nat → ClassId) (b0 bs n : Nat) (h : eb_H) : va_W := (List.range n).map (fun k => (bs + k, eb_e cs b0 bs (h k)))
def eb_up (h : eb_H) (k : Nat) (e : va_E) : eb_H := fun j => if j = k then e else h j
theorem eb_up_s {h : eb_H} {k : Nat} {e : va_E} : eb_up h k e k = e := if_pos rfl
theorem eb_up_n {h : eb_H} {k j : Nat} {e e' : va_E} (hn : j ≠ k) (he : h j = e') : eb_up h k e j = e' := (if_neg hn).trans he
theorem eb_w_at {cs : Nat → ClassId} {b0 bs n : Nat} {h : eb_H} {k : Nat} (hk : k < n) : (eb_w cs b0 bs n h)[k]? = some (bs + k, eb_e cs b0 bs (h k)) := by
  simp [eb_w, hk]
theorem eb_w_lt {cs : Nat → ClassId} {b0 bs n : Nat} {h : eb_H} {k : Nat} {q : Nat × va_E} (hk : (eb_w cs b0 bs n h)[k]? = some q) : k < n ∧ q = (bs + k, eb_e cs b0 bs (h k)) := by
  have hl : k < n := by
    have := (List.getElem?_eq_some_iff.mp hk).1
    simpa [eb_w] using this
  rw [eb_w_at hl] at hk
  exact ⟨hl, (Option.some.inj hk).symm⟩
theorem eb_w_set {cs : Nat → ClassId} {b0 bs n : Nat} {h : eb_H} {k : Nat} {e : va_E} (hk : k < n) : (eb_w cs b0 bs n h).set k (bs + k, eb_e cs b0 bs e) = eb_w cs b0 bs n (eb_up h k e) := by
  apply List.ext_getElem?
  intro j
  by_cases hj : j < n
  · rw [eb_w_at hj]
    by_cases e1 : j = k
    · subst e1
      rw [List.getElem?_set_self (by simp [eb_w, hj]), eb_up_s]
    · rw [List.getElem?_set_ne (fun q => e1 q.symm), eb_w_at hj]
      simp [eb_up, e1]
  · simp [eb_w, hj]
theorem eb_w_push {cs : Nat → ClassId} {b0 bs n : Nat} {h : eb_H} {e : va_E} : eb_w cs b0 bs n h ++ [(bs + n, eb_e cs b0 bs e)] = eb_w cs b0 bs (n + 1) (eb_up h n e) := by
  unfold eb_w
  rw [List.range_succ, List.map_append]
  congr 1
  · apply List.map_congr_left
    intro k hk
    have : k ≠ n := Nat.ne_of_lt (List.mem_range.mp hk)
    simp [eb_up, this]
  · simp [eb_up]
theorem eb_w_D {cs : Nat → ClassId} {b0 bs n : Nat} {h : eb_H} : va_D (fun q => bs ≤ q) (eb_w cs b0 bs n h) := by
  refine ⟨fun i j p q hi hj hpq => ?_, fun k q hk => ?_⟩
  · have h1 := (eb_w_lt hi).2
    have h2 := (eb_w_lt hj).2
    subst h1; subst h2
    simp only at hpq
    omega
  · have h1 := (eb_w_lt hk).2
    subst h1
    simp
def eb_ts : List Cond := lw_tbl.filter goodWord
def eb_ty (cs : Nat → ClassId) : List (ClassId × FieldType) := [(cs 0, .int), (cs 1, .long), (cs 2, .boolean), (cs 3, .object RX7), (cs 4, .object RX2)]
def eb_nw : List Cond := lw_tbl.filter (fun w => match w with | .methodLinkNest _ _ _ _ => true | _ => false)
/-- what the tables say, at any state of the run -/
def eb_K (D : va_G) (cs : Nat → ClassId) (U : State) : Prop := va_K D vwCl (eb_ty cs) U ∧ va_AO RX7 U ∧ va_AO RX2 U ∧ ∀ w ∈ eb_nw, va_Nw w U
theorem eb_nw_kind {w : Cond} (h : w ∈ eb_nw) : ∃ a i x hh, w = .methodLinkNest a i x hh := by
  have h1 := (List.mem_filter.mp h).2
  cases w <;> simp at h1
  exact ⟨_, _, _, _, rfl⟩
theorem eb_K.warm {D : va_G} {cs : Nat → ClassId} {s U : State} (hW : s.WarmedH U.vm) (h : eb_K D cs s) : eb_K D cs U := by
  obtain ⟨h1, h2, h3, h4⟩ := h
  refine ⟨va_K.moved hW.alike h1, va_AO.moved hW.alike h2, va_AO.moved hW.alike h3, fun w hw => ?_⟩
  obtain ⟨a, i, x, hh, rfl⟩ := eb_nw_kind hw
  exact va_Nw.warmM hW (h4 _ hw)
theorem eb_K.calling {D : va_G} {cs : Nat → ClassId} {U : State} {g : JFrame} {mk : MethodId} {a : Array Value} (h : eb_K D cs U) : eb_K D cs (U.calling g mk a) := by
  obtain ⟨h1, h2, h3, h4⟩ := h
  refine ⟨va_K.moved (u := U) (U := U.calling g mk a) (Vm.Alike.refl U.vm) h1, va_AO.moved (u := U) (U := U.calling g mk a) (Vm.Alike.refl U.vm) h2, va_AO.moved (u := U) (U := U.calling g mk a) (Vm.Alike.refl U.vm) h3, fun w hw => ?_⟩
  have := h4 w hw
  obtain ⟨a, i, x, hh, rfl⟩ := eb_nw_kind hw
  exact va_Nw.same rfl (u := U) rfl this
/-- where the machine stands: its code, its tables, its room -/
def eb_C (M : eb_M) (p : Program) (R : Room) (s : State) (m : MethodId) (args : Array Value) (meth : Method) (c : Code) : Prop :=
  p.tables.exec = Jvm.exec ∧ c.code = eb_code M ∧ c.maxLocals = eb_nl M ∧ s.vm.findClass (eb_y M).cls = some m.cls ∧ (∀ w ∈ eb_ts, w.before args s = true) ∧ (eb_lv M ≤ R.frames ∧ 36 * eb_lv M ≤ R.locals) ∧ (eb_mc M ≤ R.cells ∧ eb_ms M ≤ R.slots) ∧ ((eb_y M).name = "<init>" → meth.name = "<init>")
def eb_wf (n : Nat) (h : eb_H) : Prop := ∀ k : Nat, n ≤ k → h k = .inr (99, [])
def eb_P (D : va_G) (cs : Nat → ClassId) (b0 bs : Nat) (s : State) (z : eb_Z) (h : eb_H) (H : Heap) (locs : List Loc) : Prop :=
  va_P D vwCl (eb_w cs b0 bs z.1 h) H ∧ eb_K D cs s ∧ va_S (fun q => bs ≤ q) s.heap H locs ∧ (s.heap.size + z.2.1 ≤ bs + z.1 ∧ bs ≤ s.heap.size) ∧ eb_wf z.1 h
theorem eb_P.size {D : va_G} {cs : Nat → ClassId} {b0 bs : Nat} {s : State} {z : eb_Z} {h : eb_H} {H : Heap} {locs : List Loc} (hP : eb_P D cs b0 bs s z h H locs) (hu : H.size ≤ s.heap.size + z.2.1) : H.size = bs + z.1 := by
  obtain ⟨n, c, q⟩ := z
  have h1 := hP.2.2.2.1.1
  have h2 := hP.2.2.2.1.2
  have h3 := hP.2.2.1.1
  simp only at h1 hu ⊢
  cases n with
  | zero => omega
  | succ n =>
    have h4 := (hP.1 n _ (eb_w_at (Nat.lt_succ_self n))).lt
    simp only at h4
    omega
theorem eb_sized {p : Program} {l : Launch} {e : Env} {R : Room} {s : State} {m : MethodId} {args : Array Value} {below : List Frame} {meth : Method} {c : Code} {H : Heap} {locs : List Loc} {cells slots : Nat} {Q : State → Prop} {g : JFrame} (k : H.size ≤ s.heap.size + cells → W p l e R s m args below meth c H locs cells slots Q g) : W p l e R s m args below meth c H locs cells slots Q g :=
  fun T hT X => k (by have := X.same.2.2.1; rw [← hT]; exact this) T hT X
abbrev eb_no : Value := .double 0
def eb_L (b0 bs nL : Nat) (ls : List Value) (l' : Array Slot) : Prop := l'.size = nL ∧ lv_wf l' ∧ ls.length = nL ∧ ∀ (k : Nat) (v : Value), ls[k]? = some v → v ≠ eb_no → l'[k]? = some (.val (eb_v b0 bs v))
/-- from this state of the frame the machine comes to one with Q -/
def eb_V (M : eb_M) (E : Nat → Nat → State → Prop) (pc : Nat) (ls st : List Value) (z : eb_Z) (h : eb_H) (Q : Nat → List Value → List Value → eb_Z → eb_H → Prop) : Prop :=
  ∀ (l : Launch) (D : va_G) (cs : Nat → ClassId) (b0 bs : Nat) (p : Program) (e : Env) (R : Room) (s : State) (m : MethodId) (args : Array Value) (below : List Frame) (meth : Method) (c : Code) (Zf : State → Prop),
    eb_C M p R s m args meth c → E b0 bs s →
    (∀ (pc : Nat) (ls st : List Value) (z : eb_Z) (h : eb_H) (H : Heap) (locs : List Loc) (l' : Array Slot), Q pc ls st z h → eb_P D cs b0 bs s z h H locs → eb_L b0 bs (eb_nl M) ls l' → W p l e R s m args below meth c H locs z.2.1 z.2.2 Zf (F0 m pc l' (st.map (eb_v b0 bs)))) →
    ∀ (H : Heap) (locs : List Loc) (l' : Array Slot), eb_P D cs b0 bs s z h H locs → eb_L b0 bs (eb_nl M) ls l' → W p l e R s m args below meth c H locs z.2.1 z.2.2 Zf (F0 m pc l' (st.map (eb_v b0 bs)))
def eb_at (M : eb_M) (pc pc' : Nat) (i : Instr) (n : Nat) : Prop := decode (eb_code M) pc = .ok (i, n) ∧ pc + n = pc'
section EBV
variable {M : eb_M} {E : Nat → Nat → State → Prop} {pc pc' : Nat} {ls ls' st st' : List Value} {z z' : eb_Z} {h h' : eb_H} {Q Q' : Nat → List Value → List Value → eb_Z → eb_H → Prop}
theorem eb_V.go (hstep : ∀ (l : Launch) (D : va_G) (cs : Nat → ClassId) (b0 bs : Nat) (p : Program) (e : Env) (R : Room) (s : State) (m : MethodId) (args : Array Value) (below : List Frame) (meth : Method) (c : Code) (Zf : State → Prop), eb_C M p R s m args meth c → E b0 bs s →
      ∀ (H : Heap) (locs : List Loc) (l' : Array Slot), eb_P D cs b0 bs s z h H locs → eb_L b0 bs (eb_nl M) ls l' →
      (∀ (H : Heap) (locs : List Loc) (l' : Array Slot), eb_P D cs b0 bs s z' h' H locs → eb_L b0 bs (eb_nl M) ls' l' → W p l e R s m args below meth c H locs z'.2.1 z'.2.2 Zf (F0 m pc' l' (st'.map (eb_v b0 bs)))) →
      W p l e R s m args below meth c H locs z.2.1 z.2.2 Zf (F0 m pc l' (st.map (eb_v b0 bs)))) (k : eb_V M E pc' ls' st' z' h' Q) : eb_V M E pc ls st z h Q :=
  fun l D cs b0 bs p e R s m args below meth c Zf C hE hq H locs l' hP hL => hstep l D cs b0 bs p e R s m args below meth c Zf C hE H locs l' hP hL (fun H locs l' hP hL => k l D cs b0 bs p e R s m args below meth c Zf C hE hq H locs l' hP hL)
theorem eb_V.done (hq : Q pc ls st z h) : eb_V M E pc ls st z h Q :=
  fun _ _ _ _ _ _ _ _ _ _ _ _ _ _ _ _ _ k H locs l' hP hL => k pc ls st z h H locs l' hq hP hL
theorem eb_V.then (k : eb_V M E pc ls st z h Q) (kk : ∀ pc ls st z h, Q pc ls st z h → eb_V M E pc ls st z h Q') : eb_V M E pc ls st z h Q' :=
  fun l D cs b0 bs p e R s m args below meth c Zf C hE hq H locs l' hP hL => k l D cs b0 bs p e R s m args below meth c Zf C hE (fun pc ls st z h H locs l' hQ hP hL => kk pc ls st z h hQ l D cs b0 bs p e R s m args below meth c Zf C hE hq H locs l' hP hL) H locs l' hP hL
end EBV
/-- the locals that a call begins with -/
def eb_sl : List Value → List Value
  | [] => []
  | v :: t => if v.category = 2 then v :: eb_no :: eb_sl t else v :: eb_sl t
def eb_ls (M : eb_M) (as : List Value) : List Value := eb_sl as ++ List.replicate (eb_nl M - (eb_sl as).length) eb_no
def eb_rm (M : eb_M) : Room := { frames := eb_lv M, cells := eb_mc M, slots := eb_ms M, locals := 36 * eb_lv M }
def eb_ws (M : eb_M) : List Cond := .code (eb_y M) (eb_code M) (eb_nl M) (eb_ret M) :: eb_ts
/-- a method's contract -/
def eb_T (M : eb_M) (as : List Value) (n : Nat) (h : eb_H) (Q : Option Value → Nat → eb_H → Prop) : Prop :=
  ∀ (l : Launch) (D : va_G) (cs : Nat → ClassId) (b0 bs : Nat), Met l (eb_y M) (eb_ws M) (eb_rm M) (va_Pc (as.map (eb_v b0 bs)) (fun U => U.heap.size = bs + n ∧ va_P D vwCl (eb_w cs b0 bs n h) U.heap ∧ eb_K D cs U ∧ eb_wf n h))
    (fun _ st oc t => (∃ (r : Option Value) (n' : Nat) (h' : eb_H), oc = .returned (r.map (eb_v b0 bs)) ∧ Q r n' h' ∧ t.heap.size = bs + n' ∧ va_P D vwCl (eb_w cs b0 bs n' h') t.heap ∧ eb_wf n' h') ∧ va_F (fun q => bs ≤ q) st t) (eb_mc M) (eb_ms M) (fun q => bs ≤ q)
def eb_end (M : eb_M) (pc : Nat) (st : List Value) (r : Option Value) : Prop :=
  (∃ x ty, decode (eb_code M) pc = .ok (.ireturn, 1) ∧ st = [.int x] ∧ r = some (.int x) ∧ eb_ret M = some ty ∧ narrow ty (.int x) = .int x) ∨
  (∃ x, decode (eb_code M) pc = .ok (.lreturn, 1) ∧ st = [.long x] ∧ r = some (.long x) ∧ eb_ret M = some .long) ∨
  (decode (eb_code M) pc = .ok (.return_, 1) ∧ st = [] ∧ r = none ∧ eb_ret M = none) ∨
  (∃ k rt, decode (eb_code M) pc = .ok (.areturn, 1) ∧ st = [.ref k] ∧ r = some (.ref k) ∧ eb_ret M = some rt ∧ ((∃ n, rt = .object n) ∨ ∃ t, rt = .array t))
def eb_R (M : eb_M) (Q : Option Value → Nat → eb_H → Prop) : Nat → List Value → List Value → eb_Z → eb_H → Prop := fun pc _ st z h => (z.2.1 ≤ eb_mc M ∧ z.2.2 ≤ eb_ms M) ∧ ∃ r, Q r z.1 h ∧ eb_end M pc st r
theorem eb_v_cat (b0 bs : Nat) (v : Value) : (eb_v b0 bs v).category = v.category := by cases v <;> rfl
theorem eb_entry_L (b0 bs : Nat) (as : List Value) (n : Nat) (hn : (eb_sl as).length ≤ n) : eb_L b0 bs n (eb_sl as ++ List.replicate (n - (eb_sl as).length) eb_no) ((lg_sl (as.map (eb_v b0 bs)) ++ List.replicate (n - (lg_sl (as.map (eb_v b0 bs))).length) Slot.unset).toArray) := by
  have hlen : (lg_sl (as.map (eb_v b0 bs))).length = (eb_sl as).length := by
    clear hn
    induction as with
    | nil => rfl
    | cons v t ih =>
      have ih' : (lg_sl (List.map (eb_v b0 bs) t)).length = (eb_sl t).length := ih
      simp only [lg_sl, List.map_cons, List.flatMap_cons, eb_sl, eb_v_cat, List.length_append] at ih' ⊢
      by_cases hc : v.category = 2
      · simp [hc, ih']; omega
      · simp [hc, ih']; omega
  have h1 := lv_entry (as.map (eb_v b0 bs)) (n := n) (by rw [hlen]; exact hn)
  refine ⟨h1.1, h1.2.1, by simp; omega, fun k v hk hv => ?_⟩
  have hkl : k < (eb_sl as).length := by
    rcases Nat.lt_or_ge k (eb_sl as).length with q | q
    · exact q
    · rw [List.getElem?_append_right q] at hk
      have := List.mem_of_getElem? hk
      rw [List.mem_replicate] at this
      exact absurd this.2 hv
  rw [List.getElem?_append_left hkl] at hk
  rw [List.getElem?_toArray, List.getElem?_append_left (by rw [hlen]; exact hkl)]
  clear h1 hlen hkl hn
  induction as generalizing k with
  | nil => simp [eb_sl] at hk
  | cons a t ih =>
    simp only [lg_sl, List.map_cons, List.flatMap_cons, eb_sl, eb_v_cat] at hk ⊢
    by_cases hc : a.category = 2
    · rw [if_pos hc] at hk
      rw [if_pos hc]
      match k, hk with
      | 0, hk => simp at hk; subst hk; rfl
      | 1, hk => simp at hk; exact absurd hk.symm hv
      | k + 2, hk =>
        simp only [List.getElem?_cons_succ] at hk
        exact ih k hk
    · rw [if_neg hc] at hk
      rw [if_neg hc]
      match k, hk with
      | 0, hk => simp at hk; subst hk; rfl
      | k + 1, hk =>
        simp only [List.getElem?_cons_succ] at hk
        exact ih k hk
theorem eb_T.of {M : eb_M} {as : List Value} {n : Nat} {h : eb_H} {Q : Option Value → Nat → eb_H → Prop} (hy : plainName (eb_y M).cls = true) (hn : (eb_sl as).length ≤ eb_nl M)
    (k : eb_V M (fun _ _ _ => True) 0 (eb_ls M as) [] (n, 0, 0) h (eb_R M Q)) : eb_T M as n h Q := by
  intro l D cs b0 bs
  refine Met.ofW (cc := eb_code M) (maxL := eb_nl M) (ret := eb_ret M) hy rfl ?_
  intro p e s m args below meth c s₁ B hml hv
  obtain ⟨rfl, hsz, hP, hK, hwf⟩ := hv
  have hx := B.exec
  have hb := B.bytes
  have hr := B.returns
  have hts := atoms_spec (ws := eb_ws M) B.pre
  have hown : s.vm.findClass (eb_y M).cls = some m.cls := findClass_of_methodNamed B.named
  have hlocks := B.notSynchronized
  have hin : meth.name = (eb_y M).name := (name_of_methodNamed B.named B.method).1
  rw [lg_entry_eq]
  refine k l D cs b0 bs p e _ s m _ below meth c _ ⟨hx, hb, hml, hown, fun w hw => hts w (List.mem_cons_of_mem _ hw), ⟨Nat.le_refl _, Nat.le_refl _⟩, ⟨Nat.le_refl _, Nat.le_refl _⟩, fun q => hin.trans q⟩ trivial ?_ s.heap [] _ ⟨hP, hK, va_S.rf, ⟨by simp only; omega, by omega⟩, hwf⟩ (eb_entry_L b0 bs as (eb_nl M) hn)
  intro pc ls st z h' H locs l' hQ hP' hL
  obtain ⟨⟨hc1, hc2⟩, r, hq, hend⟩ := hQ
  refine eb_sized (fun hsz1 => ?_)
  have hz1 := hP'.size hsz1
  obtain ⟨hP1, hK1, hS1, hb1, hw1⟩ := hP'
  refine W.widen (k := eb_mc M) (n := eb_ms M) hc1 hc2 ?_
  rcases hend with ⟨x, ty, hd, rfl, rfl, hrt, hnr⟩ | ⟨x, hd, rfl, rfl, hrt⟩ | ⟨hd, rfl, rfl, hrt⟩ | ⟨k, rt, hd, rfl, rfl, hrt, hrk⟩
  · exact W.zret (v := x) hx hb (hr.trans hrt) hnr (fun t ht hW => ⟨⟨some (.int x), z.1, h', rfl, hq, by rw [ht]; exact hz1, by rw [ht]; exact hP1, hw1⟩, hS1.F ht⟩) hS1.2.2 hd
  · exact W.lret (v := x) hx hb (hr.trans hrt) (fun t ht hW => ⟨⟨some (.long x), z.1, h', rfl, hq, by rw [ht]; exact hz1, by rw [ht]; exact hP1, hw1⟩, hS1.F ht⟩) hS1.2.2 hd
  · exact W.vret hx hb (hr.trans hrt) (fun t ht hW => ⟨⟨none, z.1, h', rfl, hq, by rw [ht]; exact hz1, by rw [ht]; exact hP1, hw1⟩, hS1.F ht⟩) hS1.2.2 hd
  · exact W.aret (v := .ref (bs + k)) hx hb (hr.trans hrt) hrk (Or.inr ⟨_, rfl⟩) (fun t ht hW => ⟨⟨some (.ref k), z.1, h', rfl, hq, by rw [ht]; exact hz1, by rw [ht]; exact hP1, hw1⟩, hS1.F ht⟩) hS1.2.2 hd
theorem eb_T.mono {M : eb_M} {as : List Value} {n : Nat} {h : eb_H} {Q Q' : Option Value → Nat → eb_H → Prop} (k : eb_T M as n h Q) (hq : ∀ r n h, Q r n h → Q' r n h) : eb_T M as n h Q' := by
  intro l D cs b0 bs
  exact MetFree.mono (k l D cs b0 bs) (fun _ _ hh => hh) (fun _ _ _ _ _ hh => hh) (fun a st o t hp hh => ⟨⟨by obtain ⟨⟨⟨r, n', h', e1, e2, e3⟩, e4⟩, -⟩ := hh; exact ⟨r, n', h', e1, hq _ _ _ e2, e3⟩, hh.1.2⟩, hh.2⟩)
end
section
/-- numbers: an int is Int32.ofInt of a whole number -/
def eb_I (z : Int) : Int32 := Int32.ofInt z
def eb_J (z : Int) : Int64 := Int64.ofInt z
theorem eb_I_add (a b : Int) : eb_I a + eb_I b = eb_I (a + b) := (Int32.ofInt_add a b).symm
theorem eb_I_sub (a b : Int) : eb_I a - eb_I b = eb_I (a - b) := (Int32.ofInt_sub a b).symm
theorem eb_I_mul (a b : Int) : eb_I a * eb_I b = eb_I (a * b) := (Int32.ofInt_mul a b).symm
theorem eb_I_neg (a : Int) : - eb_I a = eb_I (-a) := (Int32.ofInt_neg a).symm
theorem eb_I_of (x : Int32) : eb_I x.toInt = x := Int32.ofInt_toInt x
theorem eb_I_to {a : Int} (h : -2147483648 ≤ a ∧ a ≤ 2147483647) : (eb_I a).toInt = a := Int32.toInt_ofInt_of_le (by show -2147483648 ≤ a; omega) (by show a < 2147483648; omega)
theorem eb_I_r (x : Int32) : -2147483648 ≤ x.toInt ∧ x.toInt ≤ 2147483647 := by
  have h1 := Int32.le_toInt x
  have h2 := Int32.toInt_lt x
  have e1 : (-2 ^ 31 : Int) = -2147483648 := by decide
  have e2 : (2 ^ 31 : Int) = 2147483648 := by decide
  omega
theorem eb_J_add (a b : Int) : eb_J a + eb_J b = eb_J (a + b) := (Int64.ofInt_add a b).symm
theorem eb_J_mul (a b : Int) : eb_J a * eb_J b = eb_J (a * b) := (Int64.ofInt_mul a b).symm
theorem eb_J_of (x : Int64) : eb_J x.toInt = x := Int64.ofInt_toInt x
theorem eb_J_to {a : Int} (h : -9223372036854775808 ≤ a ∧ a ≤ 9223372036854775807) : (eb_J a).toInt = a := Int64.toInt_ofInt_of_le (by show -9223372036854775808 ≤ a; omega) (by show a < 9223372036854775808; omega)
theorem eb_I_inj {a b : Int} (ha : -2147483648 ≤ a ∧ a ≤ 2147483647) (hb : -2147483648 ≤ b ∧ b ≤ 2147483647) : eb_I a = eb_I b ↔ a = b := by
  constructor
  · intro q
    rw [← eb_I_to ha, q, eb_I_to hb]
  · rintro rfl; rfl
theorem eb_I_lt {a b : Int} (ha : -2147483648 ≤ a ∧ a ≤ 2147483647) (hb : -2147483648 ≤ b ∧ b ≤ 2147483647) : eb_I a < eb_I b ↔ a < b := by
  rw [Int32.lt_iff_toInt_lt, eb_I_to ha, eb_I_to hb]
theorem eb_I_le {a b : Int} (ha : -2147483648 ≤ a ∧ a ≤ 2147483647) (hb : -2147483648 ≤ b ∧ b ≤ 2147483647) : eb_I a ≤ eb_I b ↔ a ≤ b := by
  rw [Int32.le_iff_toInt_le, eb_I_to ha, eb_I_to hb]
theorem eb_I_nat {a : Int} (h : 0 ≤ a ∧ a ≤ 2147483647) : (eb_I a).toNatClampNeg = a.toNat := by
  show (eb_I a).toInt.toNat = a.toNat
  rw [eb_I_to (by omega)]
theorem eb_I_in {a : Int} {n : Nat} (h : 0 ≤ a ∧ a < n) (hn : n ≤ 2147483647) : vp_in (eb_I a) n := by
  intro q
  rcases q with q | q
  · rw [show (0 : Int32) = eb_I 0 from rfl, eb_I_lt (by omega) (by omega)] at q
    omega
  · rw [eb_I_nat (by omega)] at q
    omega
/-- arrays of whole numbers -/
def eb_ia (n : Nat) (f : Nat → Int) : va_E := .inl (0, n, .inl (fun k => eb_I (f k)))
def eb_la (n : Nat) (f : Nat → Int) : va_E := .inl (1, n, .inr (.inl (fun k => eb_J (f k))))
def eb_za (n : Nat) (f : Nat → Int) : va_E := .inl (2, n, .inl (fun k => eb_I (f k)))
def eb_qa (t n : Nat) (f : Nat → Option Nat) : va_E := .inl (t, n, .inr (.inr (.inr (.inr f))))
def eb_set {α : Type} (f : Nat → α) (k : Nat) (x : α) : Nat → α := fun j => if j = k then x else f j
theorem eb_upd_I (f : Nat → Int) (k : Nat) (x : Int) : upd (fun j => eb_I (f j)) k (eb_I x) = fun j => eb_I (eb_set f k x j) := by
  funext j; simp only [upd, eb_set]; split <;> rfl
section EBR
variable {M : eb_M} {E : Nat → Nat → State → Prop} {pc pc' : Nat} {ls st : List Value} {z : eb_Z} {h : eb_H} {Q : Nat → List Value → List Value → eb_Z → eb_H → Prop}
theorem V_iadd {a b : Int} (hd : eb_at M pc pc' .iadd 1)  (k : eb_V M E pc' ls (.int (eb_I (a + b)) :: st) z h Q) : eb_V M E pc ls (.int (eb_I b) :: .int (eb_I a) :: st) z h Q := by
  obtain ⟨hd, rfl⟩ := hd
  refine eb_V.go (fun l D cs b0 bs p e R s m args below meth c Zf C hE H locs l' hP hL kk => ?_) k
  exact lv_iadd (x := eb_I a) (y := eb_I b) C.1 C.2.1 hd (by rw [eb_I_add]; exact kk H locs l' hP hL)
theorem V_isub {a b : Int} (hd : eb_at M pc pc' .isub 1)  (k : eb_V M E pc' ls (.int (eb_I (a - b)) :: st) z h Q) : eb_V M E pc ls (.int (eb_I b) :: .int (eb_I a) :: st) z h Q := by
  obtain ⟨hd, rfl⟩ := hd
  refine eb_V.go (fun l D cs b0 bs p e R s m args below meth c Zf C hE H locs l' hP hL kk => ?_) k
  exact lv_isub (x := eb_I a) (y := eb_I b) C.1 C.2.1 hd (by rw [eb_I_sub]; exact kk H locs l' hP hL)
theorem V_imul {a b : Int} (hd : eb_at M pc pc' .imul 1)  (k : eb_V M E pc' ls (.int (eb_I (a * b)) :: st) z h Q) : eb_V M E pc ls (.int (eb_I b) :: .int (eb_I a) :: st) z h Q := by
  obtain ⟨hd, rfl⟩ := hd
  refine eb_V.go (fun l D cs b0 bs p e R s m args below meth c Zf C hE H locs l' hP hL kk => ?_) k
  exact lv_imul (x := eb_I a) (y := eb_I b) C.1 C.2.1 hd (by rw [eb_I_mul]; exact kk H locs l' hP hL)
theorem V_ineg {a : Int} (hd : eb_at M pc pc' .ineg 1)  (k : eb_V M E pc' ls (.int (eb_I (-a)) :: st) z h Q) : eb_V M E pc ls (.int (eb_I a) :: st) z h Q := by
  obtain ⟨hd, rfl⟩ := hd
  refine eb_V.go (fun l D cs b0 bs p e R s m args below meth c Zf C hE H locs l' hP hL kk => ?_) k
  exact lv_ineg (x := eb_I a) C.1 C.2.1 hd (by rw [eb_I_neg]; exact kk H locs l' hP hL)
theorem V_ladd {a b : Int} (hd : eb_at M pc pc' .ladd 1)  (k : eb_V M E pc' ls (.long (eb_J (a + b)) :: st) z h Q) : eb_V M E pc ls (.long (eb_J b) :: .long (eb_J a) :: st) z h Q := by
  obtain ⟨hd, rfl⟩ := hd
  refine eb_V.go (fun l D cs b0 bs p e R s m args below meth c Zf C hE H locs l' hP hL kk => ?_) k
  exact lv_ladd (x := eb_J a) (y := eb_J b) C.1 C.2.1 hd (by rw [eb_J_add]; exact kk H locs l' hP hL)
theorem V_lmul {a b : Int} (hd : eb_at M pc pc' .lmul 1)  (k : eb_V M E pc' ls (.long (eb_J (a * b)) :: st) z h Q) : eb_V M E pc ls (.long (eb_J b) :: .long (eb_J a) :: st) z h Q := by
  obtain ⟨hd, rfl⟩ := hd
  refine eb_V.go (fun l D cs b0 bs p e R s m args below meth c Zf C hE H locs l' hP hL kk => ?_) k
  exact lv_lmul (x := eb_J a) (y := eb_J b) C.1 C.2.1 hd (by rw [eb_J_mul]; exact kk H locs l' hP hL)
theorem V_iand {x y v : Int32} (hd : eb_at M pc pc' .iand 1) (hv : x &&& y = v) (k : eb_V M E pc' ls (.int v :: st) z h Q) : eb_V M E pc ls (.int y :: .int x :: st) z h Q := by
  obtain ⟨hd, rfl⟩ := hd
  refine eb_V.go (fun l D cs b0 bs p e R s m args below meth c Zf C hE H locs l' hP hL kk => ?_) k
  exact lv_iand (x := x) (y := y) C.1 C.2.1 hd (by rw [hv]; exact kk H locs l' hP hL)
theorem V_land {x y v : Int64} (hd : eb_at M pc pc' .land 1) (hv : x &&& y = v) (k : eb_V M E pc' ls (.long v :: st) z h Q) : eb_V M E pc ls (.long y :: .long x :: st) z h Q := by
  obtain ⟨hd, rfl⟩ := hd
  refine eb_V.go (fun l D cs b0 bs p e R s m args below meth c Zf C hE H locs l' hP hL kk => ?_) k
  exact lv_land (x := x) (y := y) C.1 C.2.1 hd (by rw [hv]; exact kk H locs l' hP hL)
theorem V_lor {x y v : Int64} (hd : eb_at M pc pc' .lor 1) (hv : x ||| y = v) (k : eb_V M E pc' ls (.long v :: st) z h Q) : eb_V M E pc ls (.long y :: .long x :: st) z h Q := by
  obtain ⟨hd, rfl⟩ := hd
  refine eb_V.go (fun l D cs b0 bs p e R s m args below meth c Zf C hE H locs l' hP hL kk => ?_) k
  exact lv_lor (x := x) (y := y) C.1 C.2.1 hd (by rw [hv]; exact kk H locs l' hP hL)
theorem V_idiv {x y v : Int32} (hd : eb_at M pc pc' .idiv 1) (hne : ¬ y = 0) (hv : x / y = v) (k : eb_V M E pc' ls (.int v :: st) z h Q) : eb_V M E pc ls (.int y :: .int x :: st) z h Q := by
  obtain ⟨hd, rfl⟩ := hd
  refine eb_V.go (fun l D cs b0 bs p e R s m args below meth c Zf C hE H locs l' hP hL kk => ?_) k
  exact lv_idiv (x := x) (y := y) C.1 C.2.1 hd hne (by rw [hv]; exact kk H locs l' hP hL)
theorem V_irem {x y v : Int32} (hd : eb_at M pc pc' .irem 1) (hne : ¬ y = 0) (hv : x - x / y * y = v) (k : eb_V M E pc' ls (.int v :: st) z h Q) : eb_V M E pc ls (.int y :: .int x :: st) z h Q := by
  obtain ⟨hd, rfl⟩ := hd
  refine eb_V.go (fun l D cs b0 bs p e R s m args below meth c Zf C hE H locs l' hP hL kk => ?_) k
  exact lv_irem (x := x) (y := y) C.1 C.2.1 hd hne (by rw [hv]; exact kk H locs l' hP hL)
theorem V_lrem {x y v : Int64} (hd : eb_at M pc pc' .lrem 1) (hne : ¬ y = 0) (hv : x - x / y * y = v) (k : eb_V M E pc' ls (.long v :: st) z h Q) : eb_V M E pc ls (.long y :: .long x :: st) z h Q := by
  obtain ⟨hd, rfl⟩ := hd
  refine eb_V.go (fun l D cs b0 bs p e R s m args below meth c Zf C hE H locs l' hP hL kk => ?_) k
  exact lv_lrem (x := x) (y := y) C.1 C.2.1 hd hne (by rw [hv]; exact kk H locs l' hP hL)
theorem V_lshl {x v : Int64} {y : Int32} (hd : eb_at M pc pc' .lshl 1) (hv : x <<< (y.toInt64 &&& 63) = v) (k : eb_V M E pc' ls (.long v :: st) z h Q) : eb_V M E pc ls (.int y :: .long x :: st) z h Q := by
  obtain ⟨hd, rfl⟩ := hd
  refine eb_V.go (fun l D cs b0 bs p e R s m args below meth c Zf C hE H locs l' hP hL kk => ?_) k
  exact lv_lshl (x := x) (y := y) C.1 C.2.1 hd hv (kk H locs l' hP hL)
theorem V_lshr {x v : Int64} {y : Int32} (hd : eb_at M pc pc' .lshr 1) (hv : x >>> (y.toInt64 &&& 63) = v) (k : eb_V M E pc' ls (.long v :: st) z h Q) : eb_V M E pc ls (.int y :: .long x :: st) z h Q := by
  obtain ⟨hd, rfl⟩ := hd
  refine eb_V.go (fun l D cs b0 bs p e R s m args below meth c Zf C hE H locs l' hP hL kk => ?_) k
  exact lv_lshr (x := x) (y := y) C.1 C.2.1 hd hv (kk H locs l' hP hL)
theorem V_i2l {x : Int32} {v : Int64} (hd : eb_at M pc pc' .i2l 1) (hv : x.toInt64 = v) (k : eb_V M E pc' ls (.long v :: st) z h Q) : eb_V M E pc ls (.int x :: st) z h Q := by
  obtain ⟨hd, rfl⟩ := hd
  refine eb_V.go (fun l D cs b0 bs p e R s m args below meth c Zf C hE H locs l' hP hL kk => ?_) k
  exact lv_i2l (x := x) C.1 C.2.1 hd hv (kk H locs l' hP hL)
theorem V_l2i {x : Int64} {v : Int32} (hd : eb_at M pc pc' .l2i 1) (hv : x.toInt32 = v) (k : eb_V M E pc' ls (.int v :: st) z h Q) : eb_V M E pc ls (.long x :: st) z h Q := by
  obtain ⟨hd, rfl⟩ := hd
  refine eb_V.go (fun l D cs b0 bs p e R s m args below meth c Zf C hE H locs l' hP hL kk => ?_) k
  exact lv_l2i (x := x) C.1 C.2.1 hd hv (kk H locs l' hP hL)
theorem V_lcmp {x y : Int64} {v : Int32} (hd : eb_at M pc pc' .lcmp 1) (hv : lg_cmp x y = v) (k : eb_V M E pc' ls (.int v :: st) z h Q) : eb_V M E pc ls (.long y :: .long x :: st) z h Q := by
  obtain ⟨hd, rfl⟩ := hd
  refine eb_V.go (fun l D cs b0 bs p e R s m args below meth c Zf C hE H locs l' hP hL kk => ?_) k
  exact W.lcmp (x := x) (y := y) C.1 C.2.1 hd (by rw [hv]; exact kk H locs l' hP hL)
theorem V_iconst {a : Int} (hd : eb_at M pc pc' (.iconst a) 1)  (k : eb_V M E pc' ls (.int (eb_I a) :: st) z h Q) : eb_V M E pc ls (st) z h Q := by
  obtain ⟨hd, rfl⟩ := hd
  refine eb_V.go (fun l D cs b0 bs p e R s m args below meth c Zf C hE H locs l' hP hL kk => ?_) k
  exact lv_iconst (v := eb_I a) C.1 C.2.1 hd rfl (kk H locs l' hP hL)
theorem V_bipush {a : Int} (hd : eb_at M pc pc' (.bipush a) 2) (hv : (Int8.ofInt a).toInt32 = eb_I a) (k : eb_V M E pc' ls (.int (eb_I a) :: st) z h Q) : eb_V M E pc ls (st) z h Q := by
  obtain ⟨hd, rfl⟩ := hd
  refine eb_V.go (fun l D cs b0 bs p e R s m args below meth c Zf C hE H locs l' hP hL kk => ?_) k
  exact lv_bipush (v := eb_I a) C.1 C.2.1 hd hv (kk H locs l' hP hL)
theorem V_sipush {a : Int} (hd : eb_at M pc pc' (.sipush a) 3) (hv : (Int16.ofInt a).toInt32 = eb_I a) (k : eb_V M E pc' ls (.int (eb_I a) :: st) z h Q) : eb_V M E pc ls (st) z h Q := by
  obtain ⟨hd, rfl⟩ := hd
  refine eb_V.go (fun l D cs b0 bs p e R s m args below meth c Zf C hE H locs l' hP hL kk => ?_) k
  exact lv_sipush (v := eb_I a) C.1 C.2.1 hd hv (kk H locs l' hP hL)
theorem V_lconst {a : Fin 2} {b : Int} (hd : eb_at M pc pc' (.lconst a) 1) (hv : Int64.ofNat (a : Nat) = eb_J b) (k : eb_V M E pc' ls (.long (eb_J b) :: st) z h Q) : eb_V M E pc ls (st) z h Q := by
  obtain ⟨hd, rfl⟩ := hd
  refine eb_V.go (fun l D cs b0 bs p e R s m args below meth c Zf C hE H locs l' hP hL kk => ?_) k
  exact lv_lconst (v := eb_J b) C.1 C.2.1 hd hv (kk H locs l' hP hL)
theorem V_ldc {a : Int} {i : Nat} {v : Int32} (hd : eb_at M pc pc' (.ldc i) 2) (hw : Cond.constant (eb_y M).cls i v ∈ eb_ts) (hv : v = eb_I a) (k : eb_V M E pc' ls (.int (eb_I a) :: st) z h Q) : eb_V M E pc ls (st) z h Q := by
  obtain ⟨hd, rfl⟩ := hd
  refine eb_V.go (fun l D cs b0 bs p e R s m args below meth c Zf C hE H locs l' hP hL kk => ?_) k
  exact lv_ldc (v := eb_I a) C.1 C.2.1 C.2.2.2.1 (by rw [← hv]; exact C.2.2.2.2.1 _ hw) hd (kk H locs l' hP hL)
theorem V_ldc2 {a : Int} {i : Nat} {v : Int64} (hd : eb_at M pc pc' (.ldc2_w i) 3) (hw : Cond.constantLong (eb_y M).cls i v ∈ eb_ts) (hv : v = eb_J a) (k : eb_V M E pc' ls (.long (eb_J a) :: st) z h Q) : eb_V M E pc ls (st) z h Q := by
  obtain ⟨hd, rfl⟩ := hd
  refine eb_V.go (fun l D cs b0 bs p e R s m args below meth c Zf C hE H locs l' hP hL kk => ?_) k
  exact lv_ldc2 (v := eb_J a) C.1 C.2.1 C.2.2.2.1 (by rw [← hv]; exact C.2.2.2.2.1 _ hw) hd (kk H locs l' hP hL)
theorem V_dup {va : Value} (hd : eb_at M pc pc' .dup 1) (hc : va.category = 1) (k : eb_V M E pc' ls (va :: va :: st) z h Q) : eb_V M E pc ls (va :: st) z h Q := by
  obtain ⟨hd, rfl⟩ := hd
  refine eb_V.go (fun l D cs b0 bs p e R s m args below meth c Zf C hE H locs l' hP hL kk => ?_) k
  exact lv_dup C.1 C.2.1 hd (by rw [eb_v_cat]; exact hc) (kk H locs l' hP hL)
theorem V_dup2 {va vb : Value} (hd : eb_at M pc pc' .dup2 1) (hc : va.category = 1) (hc2 : vb.category = 1) (k : eb_V M E pc' ls (va :: vb :: va :: vb :: st) z h Q) : eb_V M E pc ls (va :: vb :: st) z h Q := by
  obtain ⟨hd, rfl⟩ := hd
  refine eb_V.go (fun l D cs b0 bs p e R s m args below meth c Zf C hE H locs l' hP hL kk => ?_) k
  exact lv_dup2_11 C.1 C.2.1 hd (by rw [eb_v_cat]; exact hc) (by rw [eb_v_cat]; exact hc2) (kk H locs l' hP hL)
theorem V_pop {va : Value} (hd : eb_at M pc pc' .pop 1) (hc : va.category = 1) (k : eb_V M E pc' ls (st) z h Q) : eb_V M E pc ls (va :: st) z h Q := by
  obtain ⟨hd, rfl⟩ := hd
  refine eb_V.go (fun l D cs b0 bs p e R s m args below meth c Zf C hE H locs l' hP hL kk => ?_) k
  exact lv_pop C.1 C.2.1 hd (by rw [eb_v_cat]; exact hc) (kk H locs l' hP hL)
theorem V_null  (hd : eb_at M pc pc' .aconst_null 1)  (k : eb_V M E pc' ls (.null :: st) z h Q) : eb_V M E pc ls (st) z h Q := by
  obtain ⟨hd, rfl⟩ := hd
  refine eb_V.go (fun l D cs b0 bs p e R s m args below meth c Zf C hE H locs l' hP hL kk => ?_) k
  exact lv_null C.1 C.2.1 hd (kk H locs l' hP hL)
theorem V_icmp_eq {a b off : Int} {tgt : Nat} (hd : eb_at M pc pc' (.if_icmp .eq off) 3) (ht : (pc : Int) + off = (tgt : Int)) (hr : (-2147483648 ≤ a ∧ a ≤ 2147483647) ∧ (-2147483648 ≤ b ∧ b ≤ 2147483647)) (k1 : a = b → eb_V M E tgt ls st z h Q) (k2 : ¬ a = b → eb_V M E pc' ls st z h Q) : eb_V M E pc ls (.int (eb_I b) :: .int (eb_I a) :: st) z h Q := by
  obtain ⟨hd, rfl⟩ := hd
  intro l D cs b0 bs p e R s m args below meth c Zf C hE hq H locs l' hP hL
  refine lv_icmp_eq (tgt := tgt) C.1 C.2.1 hd ht (fun q => k1 ?_ l D cs b0 bs p e R s m args below meth c Zf C hE hq H locs l' hP hL) (fun q => k2 ?_ l D cs b0 bs p e R s m args below meth c Zf C hE hq H locs l' hP hL)
  · first | exact (eb_I_inj hr.1 hr.2).mp q | (intro e; exact q ((eb_I_inj hr.1 hr.2).mpr e)) 
  · first | (intro e; exact q ((eb_I_inj hr.1 hr.2).mpr e)) | exact (eb_I_inj hr.1 hr.2).mp (Classical.not_not.mp q) | exact (eb_I_inj hr.1 hr.2).mp q
theorem V_if_eq {a  off : Int} {tgt : Nat} (hd : eb_at M pc pc' (.ifCond .eq off) 3) (ht : (pc : Int) + off = (tgt : Int)) (hr : -2147483648 ≤ a ∧ a ≤ 2147483647) (k1 : a = 0 → eb_V M E tgt ls st z h Q) (k2 : ¬ a = 0 → eb_V M E pc' ls st z h Q) : eb_V M E pc ls (.int (eb_I a) :: st) z h Q := by
  obtain ⟨hd, rfl⟩ := hd
  intro l D cs b0 bs p e R s m args below meth c Zf C hE hq H locs l' hP hL
  refine lv_if_eq (tgt := tgt) C.1 C.2.1 hd ht (fun q => k1 ?_ l D cs b0 bs p e R s m args below meth c Zf C hE hq H locs l' hP hL) (fun q => k2 ?_ l D cs b0 bs p e R s m args below meth c Zf C hE hq H locs l' hP hL)
  · first | exact (eb_I_inj hr (by omega : -2147483648 ≤ (0:Int) ∧ (0:Int) ≤ 2147483647)).mp q | (intro e; exact q ((eb_I_inj hr (by omega : -2147483648 ≤ (0:Int) ∧ (0:Int) ≤ 2147483647)).mpr e)) 
  · first | (intro e; exact q ((eb_I_inj hr (by omega : -2147483648 ≤ (0:Int) ∧ (0:Int) ≤ 2147483647)).mpr e)) | exact (eb_I_inj hr (by omega : -2147483648 ≤ (0:Int) ∧ (0:Int) ≤ 2147483647)).mp (Classical.not_not.mp q) | exact (eb_I_inj hr (by omega : -2147483648 ≤ (0:Int) ∧ (0:Int) ≤ 2147483647)).mp q
theorem V_icmp_ne {a b off : Int} {tgt : Nat} (hd : eb_at M pc pc' (.if_icmp .ne off) 3) (ht : (pc : Int) + off = (tgt : Int)) (hr : (-2147483648 ≤ a ∧ a ≤ 2147483647) ∧ (-2147483648 ≤ b ∧ b ≤ 2147483647)) (k1 : a ≠ b → eb_V M E tgt ls st z h Q) (k2 : a = b → eb_V M E pc' ls st z h Q) : eb_V M E pc ls (.int (eb_I b) :: .int (eb_I a) :: st) z h Q := by
  obtain ⟨hd, rfl⟩ := hd
  intro l D cs b0 bs p e R s m args below meth c Zf C hE hq H locs l' hP hL
  refine lv_icmp_ne (tgt := tgt) C.1 C.2.1 hd ht (fun q => k1 ?_ l D cs b0 bs p e R s m args below meth c Zf C hE hq H locs l' hP hL) (fun q => k2 ?_ l D cs b0 bs p e R s m args below meth c Zf C hE hq H locs l' hP hL)
  · first | exact (eb_I_inj hr.1 hr.2).mp q | (intro e; exact q ((eb_I_inj hr.1 hr.2).mpr e)) 
  · first | (intro e; exact q ((eb_I_inj hr.1 hr.2).mpr e)) | exact (eb_I_inj hr.1 hr.2).mp (Classical.not_not.mp q) | exact (eb_I_inj hr.1 hr.2).mp q
theorem V_if_ne {a  off : Int} {tgt : Nat} (hd : eb_at M pc pc' (.ifCond .ne off) 3) (ht : (pc : Int) + off = (tgt : Int)) (hr : -2147483648 ≤ a ∧ a ≤ 2147483647) (k1 : a ≠ 0 → eb_V M E tgt ls st z h Q) (k2 : a = 0 → eb_V M E pc' ls st z h Q) : eb_V M E pc ls (.int (eb_I a) :: st) z h Q := by
  obtain ⟨hd, rfl⟩ := hd
  intro l D cs b0 bs p e R s m args below meth c Zf C hE hq H locs l' hP hL
  refine lv_if_ne (tgt := tgt) C.1 C.2.1 hd ht (fun q => k1 ?_ l D cs b0 bs p e R s m args below meth c Zf C hE hq H locs l' hP hL) (fun q => k2 ?_ l D cs b0 bs p e R s m args below meth c Zf C hE hq H locs l' hP hL)
  · first | exact (eb_I_inj hr (by omega : -2147483648 ≤ (0:Int) ∧ (0:Int) ≤ 2147483647)).mp q | (intro e; exact q ((eb_I_inj hr (by omega : -2147483648 ≤ (0:Int) ∧ (0:Int) ≤ 2147483647)).mpr e)) 
  · first | (intro e; exact q ((eb_I_inj hr (by omega : -2147483648 ≤ (0:Int) ∧ (0:Int) ≤ 2147483647)).mpr e)) | exact (eb_I_inj hr (by omega : -2147483648 ≤ (0:Int) ∧ (0:Int) ≤ 2147483647)).mp (Classical.not_not.mp q) | exact (eb_I_inj hr (by omega : -2147483648 ≤ (0:Int) ∧ (0:Int) ≤ 2147483647)).mp q
theorem V_icmp_lt {a b off : Int} {tgt : Nat} (hd : eb_at M pc pc' (.if_icmp .lt off) 3) (ht : (pc : Int) + off = (tgt : Int)) (hr : (-2147483648 ≤ a ∧ a ≤ 2147483647) ∧ (-2147483648 ≤ b ∧ b ≤ 2147483647)) (k1 : a < b → eb_V M E tgt ls st z h Q) (k2 : ¬ a < b → eb_V M E pc' ls st z h Q) : eb_V M E pc ls (.int (eb_I b) :: .int (eb_I a) :: st) z h Q := by
  obtain ⟨hd, rfl⟩ := hd
  intro l D cs b0 bs p e R s m args below meth c Zf C hE hq H locs l' hP hL
  refine lv_icmp_lt (tgt := tgt) C.1 C.2.1 hd ht (fun q => k1 ?_ l D cs b0 bs p e R s m args below meth c Zf C hE hq H locs l' hP hL) (fun q => k2 ?_ l D cs b0 bs p e R s m args below meth c Zf C hE hq H locs l' hP hL)
  · first | exact (eb_I_lt hr.1 hr.2).mp q | (intro e; exact q ((eb_I_lt hr.1 hr.2).mpr e)) 
  · first | (intro e; exact q ((eb_I_lt hr.1 hr.2).mpr e)) | exact (eb_I_lt hr.1 hr.2).mp (Classical.not_not.mp q) | exact (eb_I_lt hr.1 hr.2).mp q
theorem V_if_lt {a  off : Int} {tgt : Nat} (hd : eb_at M pc pc' (.ifCond .lt off) 3) (ht : (pc : Int) + off = (tgt : Int)) (hr : -2147483648 ≤ a ∧ a ≤ 2147483647) (k1 : a < 0 → eb_V M E tgt ls st z h Q) (k2 : ¬ a < 0 → eb_V M E pc' ls st z h Q) : eb_V M E pc ls (.int (eb_I a) :: st) z h Q := by
  obtain ⟨hd, rfl⟩ := hd
  intro l D cs b0 bs p e R s m args below meth c Zf C hE hq H locs l' hP hL
  refine lv_if_lt (tgt := tgt) C.1 C.2.1 hd ht (fun q => k1 ?_ l D cs b0 bs p e R s m args below meth c Zf C hE hq H locs l' hP hL) (fun q => k2 ?_ l D cs b0 bs p e R s m args below meth c Zf C hE hq H locs l' hP hL)
  · first | exact (eb_I_lt hr (by omega : -2147483648 ≤ (0:Int) ∧ (0:Int) ≤ 2147483647)).mp q | (intro e; exact q ((eb_I_lt hr (by omega : -2147483648 ≤ (0:Int) ∧ (0:Int) ≤ 2147483647)).mpr e)) 
  · first | (intro e; exact q ((eb_I_lt hr (by omega : -2147483648 ≤ (0:Int) ∧ (0:Int) ≤ 2147483647)).mpr e)) | exact (eb_I_lt hr (by omega : -2147483648 ≤ (0:Int) ∧ (0:Int) ≤ 2147483647)).mp (Classical.not_not.mp q) | exact (eb_I_lt hr (by omega : -2147483648 ≤ (0:Int) ∧ (0:Int) ≤ 2147483647)).mp q
theorem V_icmp_ge {a b off : Int} {tgt : Nat} (hd : eb_at M pc pc' (.if_icmp .ge off) 3) (ht : (pc : Int) + off = (tgt : Int)) (hr : (-2147483648 ≤ a ∧ a ≤ 2147483647) ∧ (-2147483648 ≤ b ∧ b ≤ 2147483647)) (k1 : b ≤ a → eb_V M E tgt ls st z h Q) (k2 : ¬ b ≤ a → eb_V M E pc' ls st z h Q) : eb_V M E pc ls (.int (eb_I b) :: .int (eb_I a) :: st) z h Q := by
  obtain ⟨hd, rfl⟩ := hd
  intro l D cs b0 bs p e R s m args below meth c Zf C hE hq H locs l' hP hL
  refine lv_icmp_ge (tgt := tgt) C.1 C.2.1 hd ht (fun q => k1 ?_ l D cs b0 bs p e R s m args below meth c Zf C hE hq H locs l' hP hL) (fun q => k2 ?_ l D cs b0 bs p e R s m args below meth c Zf C hE hq H locs l' hP hL)
  · first | exact (eb_I_le hr.2 hr.1).mp q | (intro e; exact q ((eb_I_le hr.2 hr.1).mpr e)) 
  · first | (intro e; exact q ((eb_I_le hr.2 hr.1).mpr e)) | exact (eb_I_le hr.2 hr.1).mp (Classical.not_not.mp q) | exact (eb_I_le hr.2 hr.1).mp q
theorem V_if_ge {a  off : Int} {tgt : Nat} (hd : eb_at M pc pc' (.ifCond .ge off) 3) (ht : (pc : Int) + off = (tgt : Int)) (hr : -2147483648 ≤ a ∧ a ≤ 2147483647) (k1 : 0 ≤ a → eb_V M E tgt ls st z h Q) (k2 : ¬ 0 ≤ a → eb_V M E pc' ls st z h Q) : eb_V M E pc ls (.int (eb_I a) :: st) z h Q := by
  obtain ⟨hd, rfl⟩ := hd
  intro l D cs b0 bs p e R s m args below meth c Zf C hE hq H locs l' hP hL
  refine lv_if_ge (tgt := tgt) C.1 C.2.1 hd ht (fun q => k1 ?_ l D cs b0 bs p e R s m args below meth c Zf C hE hq H locs l' hP hL) (fun q => k2 ?_ l D cs b0 bs p e R s m args below meth c Zf C hE hq H locs l' hP hL)
  · first | exact (eb_I_le (by omega : -2147483648 ≤ (0:Int) ∧ (0:Int) ≤ 2147483647) hr).mp q | (intro e; exact q ((eb_I_le (by omega : -2147483648 ≤ (0:Int) ∧ (0:Int) ≤ 2147483647) hr).mpr e)) 
  · first | (intro e; exact q ((eb_I_le (by omega : -2147483648 ≤ (0:Int) ∧ (0:Int) ≤ 2147483647) hr).mpr e)) | exact (eb_I_le (by omega : -2147483648 ≤ (0:Int) ∧ (0:Int) ≤ 2147483647) hr).mp (Classical.not_not.mp q) | exact (eb_I_le (by omega : -2147483648 ≤ (0:Int) ∧ (0:Int) ≤ 2147483647) hr).mp q
theorem V_icmp_gt {a b off : Int} {tgt : Nat} (hd : eb_at M pc pc' (.if_icmp .gt off) 3) (ht : (pc : Int) + off = (tgt : Int)) (hr : (-2147483648 ≤ a ∧ a ≤ 2147483647) ∧ (-2147483648 ≤ b ∧ b ≤ 2147483647)) (k1 : b < a → eb_V M E tgt ls st z h Q) (k2 : ¬ b < a → eb_V M E pc' ls st z h Q) : eb_V M E pc ls (.int (eb_I b) :: .int (eb_I a) :: st) z h Q := by
  obtain ⟨hd, rfl⟩ := hd
  intro l D cs b0 bs p e R s m args below meth c Zf C hE hq H locs l' hP hL
  refine lv_icmp_gt (tgt := tgt) C.1 C.2.1 hd ht (fun q => k1 ?_ l D cs b0 bs p e R s m args below meth c Zf C hE hq H locs l' hP hL) (fun q => k2 ?_ l D cs b0 bs p e R s m args below meth c Zf C hE hq H locs l' hP hL)
  · first | exact (eb_I_lt hr.2 hr.1).mp q | (intro e; exact q ((eb_I_lt hr.2 hr.1).mpr e)) 
  · first | (intro e; exact q ((eb_I_lt hr.2 hr.1).mpr e)) | exact (eb_I_lt hr.2 hr.1).mp (Classical.not_not.mp q) | exact (eb_I_lt hr.2 hr.1).mp q
theorem V_if_gt {a  off : Int} {tgt : Nat} (hd : eb_at M pc pc' (.ifCond .gt off) 3) (ht : (pc : Int) + off = (tgt : Int)) (hr : -2147483648 ≤ a ∧ a ≤ 2147483647) (k1 : 0 < a → eb_V M E tgt ls st z h Q) (k2 : ¬ 0 < a → eb_V M E pc' ls st z h Q) : eb_V M E pc ls (.int (eb_I a) :: st) z h Q := by
  obtain ⟨hd, rfl⟩ := hd
  intro l D cs b0 bs p e R s m args below meth c Zf C hE hq H locs l' hP hL
  refine lv_if_gt (tgt := tgt) C.1 C.2.1 hd ht (fun q => k1 ?_ l D cs b0 bs p e R s m args below meth c Zf C hE hq H locs l' hP hL) (fun q => k2 ?_ l D cs b0 bs p e R s m args below meth c Zf C hE hq H locs l' hP hL)
  · first | exact (eb_I_lt (by omega : -2147483648 ≤ (0:Int) ∧ (0:Int) ≤ 2147483647) hr).mp q | (intro e; exact q ((eb_I_lt (by omega : -2147483648 ≤ (0:Int) ∧ (0:Int) ≤ 2147483647) hr).mpr e)) 
  · first | (intro e; exact q ((eb_I_lt (by omega : -2147483648 ≤ (0:Int) ∧ (0:Int) ≤ 2147483647) hr).mpr e)) | exact (eb_I_lt (by omega : -2147483648 ≤ (0:Int) ∧ (0:Int) ≤ 2147483647) hr).mp (Classical.not_not.mp q) | exact (eb_I_lt (by omega : -2147483648 ≤ (0:Int) ∧ (0:Int) ≤ 2147483647) hr).mp q
theorem V_icmp_le {a b off : Int} {tgt : Nat} (hd : eb_at M pc pc' (.if_icmp .le off) 3) (ht : (pc : Int) + off = (tgt : Int)) (hr : (-2147483648 ≤ a ∧ a ≤ 2147483647) ∧ (-2147483648 ≤ b ∧ b ≤ 2147483647)) (k1 : a ≤ b → eb_V M E tgt ls st z h Q) (k2 : ¬ a ≤ b → eb_V M E pc' ls st z h Q) : eb_V M E pc ls (.int (eb_I b) :: .int (eb_I a) :: st) z h Q := by
  obtain ⟨hd, rfl⟩ := hd
  intro l D cs b0 bs p e R s m args below meth c Zf C hE hq H locs l' hP hL
  refine lv_icmp_le (tgt := tgt) C.1 C.2.1 hd ht (fun q => k1 ?_ l D cs b0 bs p e R s m args below meth c Zf C hE hq H locs l' hP hL) (fun q => k2 ?_ l D cs b0 bs p e R s m args below meth c Zf C hE hq H locs l' hP hL)
  · first | exact (eb_I_le hr.1 hr.2).mp q | (intro e; exact q ((eb_I_le hr.1 hr.2).mpr e)) 
  · first | (intro e; exact q ((eb_I_le hr.1 hr.2).mpr e)) | exact (eb_I_le hr.1 hr.2).mp (Classical.not_not.mp q) | exact (eb_I_le hr.1 hr.2).mp q
theorem V_if_le {a  off : Int} {tgt : Nat} (hd : eb_at M pc pc' (.ifCond .le off) 3) (ht : (pc : Int) + off = (tgt : Int)) (hr : -2147483648 ≤ a ∧ a ≤ 2147483647) (k1 : a ≤ 0 → eb_V M E tgt ls st z h Q) (k2 : ¬ a ≤ 0 → eb_V M E pc' ls st z h Q) : eb_V M E pc ls (.int (eb_I a) :: st) z h Q := by
  obtain ⟨hd, rfl⟩ := hd
  intro l D cs b0 bs p e R s m args below meth c Zf C hE hq H locs l' hP hL
  refine lv_if_le (tgt := tgt) C.1 C.2.1 hd ht (fun q => k1 ?_ l D cs b0 bs p e R s m args below meth c Zf C hE hq H locs l' hP hL) (fun q => k2 ?_ l D cs b0 bs p e R s m args below meth c Zf C hE hq H locs l' hP hL)
  · first | exact (eb_I_le hr (by omega : -2147483648 ≤ (0:Int) ∧ (0:Int) ≤ 2147483647)).mp q | (intro e; exact q ((eb_I_le hr (by omega : -2147483648 ≤ (0:Int) ∧ (0:Int) ≤ 2147483647)).mpr e)) 
  · first | (intro e; exact q ((eb_I_le hr (by omega : -2147483648 ≤ (0:Int) ∧ (0:Int) ≤ 2147483647)).mpr e)) | exact (eb_I_le hr (by omega : -2147483648 ≤ (0:Int) ∧ (0:Int) ≤ 2147483647)).mp (Classical.not_not.mp q) | exact (eb_I_le hr (by omega : -2147483648 ≤ (0:Int) ∧ (0:Int) ≤ 2147483647)).mp q
theorem V_goto {off : Int} {tgt : Nat} (hd : eb_at M pc pc' (.goto off) 3) (ht : (pc : Int) + off = (tgt : Int)) (k : eb_V M E tgt ls st z h Q) : eb_V M E pc ls st z h Q := by
  obtain ⟨hd, rfl⟩ := hd
  refine eb_V.go (fun l D cs b0 bs p e R s m args below meth c Zf C hE H locs l' hP hL kk => ?_) k
  exact lv_goto (tgt := tgt) C.1 C.2.1 hd ht (kk H locs l' hP hL)
end EBR
end
section
def eb_ok (ls : List Value) (i : Nat) : Bool := match i with
  | 0 => true
  | j + 1 => match ls[j]? with
    | some (.long _) => false
    | some (.double b) => b == 0
    | _ => true
theorem eb_s0 {α : Type} {a v : α} {l : List α} : (a :: l).set 0 v = v :: l := rfl
theorem eb_sS {α : Type} {a v : α} {l l' : List α} {k : Nat} (h : l.set k v = l') : (a :: l).set (k + 1) v = a :: l' := by rw [← h]; rfl
def eb_lv0 (b0 bs nL : Nat) (ls : List Value) : List (Nat × Value) := (List.range nL).filterMap (fun k => match ls[k]? with
  | some v => if v = eb_no then none else some (k, eb_v b0 bs v)
  | none => none)
theorem eb_lv0_has {b0 bs nL : Nat} {ls : List Value} {l' : Array Slot} (hL : eb_L b0 bs nL ls l') : lv_has l' nL (eb_lv0 b0 bs nL ls) := by
  refine ⟨hL.1, hL.2.1, fun q hq => ?_⟩
  obtain ⟨k, hk, hf⟩ := List.mem_filterMap.mp hq
  cases hv : ls[k]? with
  | none => simp [hv] at hf
  | some v =>
    simp only [hv] at hf
    by_cases e : v = eb_no
    · simp [e] at hf
    · rw [if_neg e] at hf
      cases hf
      exact hL.2.2.2 k v hv e
theorem eb_lv0_in {b0 bs nL : Nat} {ls : List Value} {k : Nat} {v : Value} (hk : k < nL) (hv : ls[k]? = some v) (hn : v ≠ eb_no) : (k, eb_v b0 bs v) ∈ eb_lv0 b0 bs nL ls :=
  List.mem_filterMap.mpr ⟨k, List.mem_range.mpr hk, by simp only [hv]; rw [if_neg hn]⟩
theorem eb_okn {ls : List Value} {i k : Nat} {v : Value} (hok : eb_ok ls i = true) (hk : k + 1 = i) (hv : ls[k]? = some v) (hn : v ≠ eb_no) : ¬ v.category = 2 := by
  subst hk
  intro hc
  cases v <;> simp [Value.category] at hc
  · simp [eb_ok, hv] at hok
  · simp only [eb_ok, hv, beq_iff_eq] at hok
    exact hn (by rw [hok])
theorem eb_L1 {b0 bs nL : Nat} {ls : List Value} {l'' : Array Slot} {i : Nat} {v : Value} (hlen : ls.length = nL) (hi : i < nL) (hok : eb_ok ls i = true)
    (h : lv_has l'' nL ((i, eb_v b0 bs v) :: (eb_lv0 b0 bs nL ls).filter (fun q => !(q.1 == i) && !(q.1 + 1 == i && q.2.category == 2)))) : eb_L b0 bs nL (ls.set i v) l'' := by
  refine ⟨h.1, h.2.1, by simp [hlen], fun k w hk hw => ?_⟩
  by_cases e : k = i
  · subst e
    rw [List.getElem?_set_self (by omega)] at hk
    cases hk
    exact h.2.2 _ List.mem_cons_self
  · rw [List.getElem?_set_ne (fun q => e q.symm)] at hk
    have hkl : k < nL := by rw [← hlen]; exact (List.getElem?_eq_some_iff.mp hk).1
    refine h.2.2 (k, eb_v b0 bs w) (List.mem_cons_of_mem _ (List.mem_filter.mpr ⟨eb_lv0_in hkl hk hw, ?_⟩))
    simp only [eb_v_cat, Bool.and_eq_true, Bool.not_eq_true', beq_eq_false_iff_ne, ne_eq, Bool.and_eq_false_iff]
    refine ⟨e, ?_⟩
    by_cases e2 : k + 1 = i
    · exact Or.inr (eb_okn hok e2 hk hw)
    · exact Or.inl e2
theorem eb_L2 {b0 bs nL : Nat} {ls : List Value} {l'' : Array Slot} {i : Nat} {v : Value} (hlen : ls.length = nL) (hi : i + 1 < nL) (hok : eb_ok ls i = true)
    (h : lv_has l'' nL ((i, eb_v b0 bs v) :: (eb_lv0 b0 bs nL ls).filter (fun q => !(q.1 == i) && (!(q.1 == i + 1) && !(q.1 + 1 == i && q.2.category == 2))))) : eb_L b0 bs nL ((ls.set i v).set (i + 1) eb_no) l'' := by
  refine ⟨h.1, h.2.1, by simp [hlen], fun k w hk hw => ?_⟩
  by_cases e1 : k = i + 1
  · subst e1
    rw [List.getElem?_set_self (by simp; omega)] at hk
    cases hk
    exact absurd rfl hw
  · rw [List.getElem?_set_ne (fun q => e1 q.symm)] at hk
    by_cases e : k = i
    · subst e
      rw [List.getElem?_set_self (by omega)] at hk
      cases hk
      exact h.2.2 _ List.mem_cons_self
    · rw [List.getElem?_set_ne (fun q => e q.symm)] at hk
      have hkl : k < nL := by rw [← hlen]; exact (List.getElem?_eq_some_iff.mp hk).1
      refine h.2.2 (k, eb_v b0 bs w) (List.mem_cons_of_mem _ (List.mem_filter.mpr ⟨eb_lv0_in hkl hk hw, ?_⟩))
      simp only [eb_v_cat, Bool.and_eq_true, Bool.not_eq_true', beq_eq_false_iff_ne, ne_eq, Bool.and_eq_false_iff]
      refine ⟨e, e1, ?_⟩
      by_cases e2 : k + 1 = i
      · exact Or.inr (eb_okn hok e2 hk hw)
      · exact Or.inl e2
section EBLo
variable {M : eb_M} {E : Nat → Nat → State → Prop} {pc pc' : Nat} {ls ls' st : List Value} {z : eb_Z} {h : eb_H} {Q : Nat → List Value → List Value → eb_Z → eb_H → Prop}
theorem V_iload_n {j : Fin 4} {i : Nat} {x : Int32} (hd : eb_at M pc pc' (.iload_n j) 1) (hi : (j : Nat) = i) (hl : ls[i]? = some (.int x)) (k : eb_V M E pc' ls (.int x :: st) z h Q) : eb_V M E pc ls st z h Q := by
  obtain ⟨hd, rfl⟩ := hd
  refine eb_V.go (fun l D cs b0 bs p e R s m args below meth c Zf C hE H locs l' hP hL kk => ?_) k
  exact lv_iload_n C.1 C.2.1 hd hi (hL.2.2.2 i _ hl (by intro q; cases q)) (kk H locs l' hP hL)
theorem V_iload {i : Nat} {x : Int32} (hd : eb_at M pc pc' (.iload i) 2) (hl : ls[i]? = some (.int x)) (k : eb_V M E pc' ls (.int x :: st) z h Q) : eb_V M E pc ls st z h Q := by
  obtain ⟨hd, rfl⟩ := hd
  refine eb_V.go (fun l D cs b0 bs p e R s m args below meth c Zf C hE H locs l' hP hL kk => ?_) k
  exact lv_iload C.1 C.2.1 hd (hL.2.2.2 i _ hl (by intro q; cases q)) (kk H locs l' hP hL)
theorem V_istore_n {j : Fin 4} {i : Nat} {x : Int32} (hd : eb_at M pc pc' (.istore_n j) 1) (hi : (j : Nat) = i) (hn : i < ls.length) (hok : eb_ok ls i = true) (hs : ls.set i (.int x) = ls') (k : eb_V M E pc' ls' st z h Q) : eb_V M E pc ls (.int x :: st) z h Q := by
  obtain ⟨hd, rfl⟩ := hd
  refine eb_V.go (fun l D cs b0 bs p e R s m args below meth c Zf C hE H locs l' hP hL kk => ?_) k
  exact lv_istore_n C.1 C.2.1 hd hi (eb_lv0_has hL) (by rw [← hL.2.2.1]; exact hn) rfl (fun l2 hl2 => kk H locs l2 hP (by rw [← hs]; exact eb_L1 (v := .int x) hL.2.2.1 (by rw [← hL.2.2.1]; exact hn) hok hl2))
theorem V_istore {i : Nat} {x : Int32} (hd : eb_at M pc pc' (.istore i) 2) (hn : i < ls.length) (hok : eb_ok ls i = true) (hs : ls.set i (.int x) = ls') (k : eb_V M E pc' ls' st z h Q) : eb_V M E pc ls (.int x :: st) z h Q := by
  obtain ⟨hd, rfl⟩ := hd
  refine eb_V.go (fun l D cs b0 bs p e R s m args below meth c Zf C hE H locs l' hP hL kk => ?_) k
  exact lv_istore C.1 C.2.1 hd (eb_lv0_has hL) (by rw [← hL.2.2.1]; exact hn) rfl (fun l2 hl2 => kk H locs l2 hP (by rw [← hs]; exact eb_L1 (v := .int x) hL.2.2.1 (by rw [← hL.2.2.1]; exact hn) hok hl2))
theorem V_lload_n {j : Fin 4} {i : Nat} {x : Int64} (hd : eb_at M pc pc' (.lload_n j) 1) (hi : (j : Nat) = i) (hl : ls[i]? = some (.long x)) (k : eb_V M E pc' ls (.long x :: st) z h Q) : eb_V M E pc ls st z h Q := by
  obtain ⟨hd, rfl⟩ := hd
  refine eb_V.go (fun l D cs b0 bs p e R s m args below meth c Zf C hE H locs l' hP hL kk => ?_) k
  exact lv_lload_n C.1 C.2.1 hd hi (hL.2.2.2 i _ hl (by intro q; cases q)) (kk H locs l' hP hL)
theorem V_lload {i : Nat} {x : Int64} (hd : eb_at M pc pc' (.lload i) 2) (hl : ls[i]? = some (.long x)) (k : eb_V M E pc' ls (.long x :: st) z h Q) : eb_V M E pc ls st z h Q := by
  obtain ⟨hd, rfl⟩ := hd
  refine eb_V.go (fun l D cs b0 bs p e R s m args below meth c Zf C hE H locs l' hP hL kk => ?_) k
  exact lv_lload C.1 C.2.1 hd (hL.2.2.2 i _ hl (by intro q; cases q)) (kk H locs l' hP hL)
theorem V_lstore_n {j : Fin 4} {i : Nat} {x : Int64} (hd : eb_at M pc pc' (.lstore_n j) 1) (hi : (j : Nat) = i) (hn : i + 1 < ls.length) (hok : eb_ok ls i = true) {ls1 : List Value} (hs : ls.set i (.long x) = ls1) (hs2 : ls1.set (i + 1) eb_no = ls') (k : eb_V M E pc' ls' st z h Q) : eb_V M E pc ls (.long x :: st) z h Q := by
  obtain ⟨hd, rfl⟩ := hd
  refine eb_V.go (fun l D cs b0 bs p e R s m args below meth c Zf C hE H locs l' hP hL kk => ?_) k
  exact lv_lstore_n C.1 C.2.1 hd hi (eb_lv0_has hL) (by rw [← hL.2.2.1]; exact hn) rfl (fun l2 hl2 => kk H locs l2 hP (by rw [← hs2, ← hs]; exact eb_L2 (v := .long x) hL.2.2.1 (by rw [← hL.2.2.1]; exact hn) hok hl2))
theorem V_aload_n {j : Fin 4} {i : Nat} {x : Nat} (hd : eb_at M pc pc' (.aload_n j) 1) (hi : (j : Nat) = i) (hl : ls[i]? = some (.ref x)) (k : eb_V M E pc' ls (.ref x :: st) z h Q) : eb_V M E pc ls st z h Q := by
  obtain ⟨hd, rfl⟩ := hd
  refine eb_V.go (fun l D cs b0 bs p e R s m args below meth c Zf C hE H locs l' hP hL kk => ?_) k
  exact lv_aload_n C.1 C.2.1 hd hi (hL.2.2.2 i _ hl (by intro q; cases q)) (kk H locs l' hP hL)
theorem V_aload {i : Nat} {x : Nat} (hd : eb_at M pc pc' (.aload i) 2) (hl : ls[i]? = some (.ref x)) (k : eb_V M E pc' ls (.ref x :: st) z h Q) : eb_V M E pc ls st z h Q := by
  obtain ⟨hd, rfl⟩ := hd
  refine eb_V.go (fun l D cs b0 bs p e R s m args below meth c Zf C hE H locs l' hP hL kk => ?_) k
  exact lv_aload C.1 C.2.1 hd (hL.2.2.2 i _ hl (by intro q; cases q)) (kk H locs l' hP hL)
theorem V_astore_n {j : Fin 4} {i : Nat} {x : Nat} (hd : eb_at M pc pc' (.astore_n j) 1) (hi : (j : Nat) = i) (hn : i < ls.length) (hok : eb_ok ls i = true) (hs : ls.set i (.ref x) = ls') (k : eb_V M E pc' ls' st z h Q) : eb_V M E pc ls (.ref x :: st) z h Q := by
  obtain ⟨hd, rfl⟩ := hd
  refine eb_V.go (fun l D cs b0 bs p e R s m args below meth c Zf C hE H locs l' hP hL kk => ?_) k
  exact lv_astore_n C.1 C.2.1 hd hi (eb_lv0_has hL) (by rw [← hL.2.2.1]; exact hn) rfl (fun l2 hl2 => kk H locs l2 hP (by rw [← hs]; exact eb_L1 (v := .ref x) hL.2.2.1 (by rw [← hL.2.2.1]; exact hn) hok hl2))
theorem V_astore {i : Nat} {x : Nat} (hd : eb_at M pc pc' (.astore i) 2) (hn : i < ls.length) (hok : eb_ok ls i = true) (hs : ls.set i (.ref x) = ls') (k : eb_V M E pc' ls' st z h Q) : eb_V M E pc ls (.ref x :: st) z h Q := by
  obtain ⟨hd, rfl⟩ := hd
  refine eb_V.go (fun l D cs b0 bs p e R s m args below meth c Zf C hE H locs l' hP hL kk => ?_) k
  exact lv_astore C.1 C.2.1 hd (eb_lv0_has hL) (by rw [← hL.2.2.1]; exact hn) rfl (fun l2 hl2 => kk H locs l2 hP (by rw [← hs]; exact eb_L1 (v := .ref x) hL.2.2.1 (by rw [← hL.2.2.1]; exact hn) hok hl2))
theorem V_iinc {i : Nat} {a b : Int} (hd : eb_at M pc pc' (.iinc i b) 3) (hl : ls[i]? = some (.int (eb_I a))) (hok : eb_ok ls i = true) (hs : ls.set i (.int (eb_I (a + b))) = ls') (k : eb_V M E pc' ls' st z h Q) : eb_V M E pc ls st z h Q := by
  obtain ⟨hd, rfl⟩ := hd
  refine eb_V.go (fun l D cs b0 bs p e R s m args below meth c Zf C hE H locs l' hP hL kk => ?_) k
  have hn : i < ls.length := (List.getElem?_eq_some_iff.mp hl).1
  have hn2 : i < eb_nl M := by rw [← hL.2.2.1]; exact hn
  obtain ⟨j, hj⟩ := List.getElem?_of_mem (eb_lv0_in (b0 := b0) (bs := bs) hn2 hl (by intro q; cases q))
  exact lv_iinc (x := eb_I a) (v := eb_I (a + b)) C.1 C.2.1 hd (eb_lv0_has hL) hj (eb_I_add a b) hn2 rfl (fun l2 hl2 => kk H locs l2 hP (by rw [← hs]; exact eb_L1 (v := .int (eb_I (a + b))) hL.2.2.1 hn2 hok hl2))
end EBLo
end
section
theorem eb_mem {w : Cond} (i : Nat) (h : lw_tbl[i]? = some w) (hg : goodWord w = true) : w ∈ eb_ts := List.mem_filter.mpr ⟨List.mem_of_getElem? h, hg⟩
theorem eb_P.lt {D : va_G} {cs : Nat → ClassId} {b0 bs : Nat} {s : State} {z : eb_Z} {h : eb_H} {H : Heap} {locs : List Loc} (hP : eb_P D cs b0 bs s z h H locs) {a : Nat} {e : va_E} (he : h a = e) (hne : e ≠ .inr (99, [])) : a < z.1 := by
  rcases Nat.lt_or_ge a z.1 with q | q
  · exact q
  · exact absurd (he.symm.trans (hP.2.2.2.2 a q)) hne
theorem eb_wf.up {n : Nat} {h : eb_H} {a : Nat} {e : va_E} (hw : eb_wf n h) (ha : a < n) : eb_wf n (eb_up h a e) := fun k hk => by
  rw [eb_up, if_neg (by omega)]
  exact hw k hk
theorem eb_P.w {D : va_G} {cs : Nat → ClassId} {b0 bs : Nat} {s : State} {z : eb_Z} {h : eb_H} {H : Heap} {locs : List Loc} (hP : eb_P D cs b0 bs s z h H locs) {a : Nat} {e : va_E} (he : h a = e) (hne : e ≠ .inr (99, [])) : (eb_w cs b0 bs z.1 h)[a]? = some (bs + a, eb_e cs b0 bs e) := by
  rw [eb_w_at (hP.lt he hne), he]
theorem eb_P.up {D : va_G} {cs : Nat → ClassId} {b0 bs : Nat} {s : State} {z : eb_Z} {h : eb_H} {H H1 : Heap} {locs locs1 : List Loc} (hP : eb_P D cs b0 bs s z h H locs) {a : Nat} {e0 e : va_E} (he : h a = e0) (hne : e0 ≠ .inr (99, []))
    (h1 : va_P D vwCl ((eb_w cs b0 bs z.1 h).set a (bs + a, eb_e cs b0 bs e)) H1) (h2 : va_S (fun q => bs ≤ q) s.heap H1 locs1) : eb_P D cs b0 bs s z (eb_up h a e) H1 locs1 := by
  rw [eb_w_set (hP.lt he hne)] at h1
  exact ⟨h1, hP.2.1, h2, hP.2.2.2.1, hP.2.2.2.2.up (hP.lt he hne)⟩
/-- what the tables say of the classes -/
def eb_cok (q : vw_C) : Prop := (∀ k, k < q.2.2 → u_lay q.1 q.2.1 k ∈ eb_ts) ∧ ∃ ty : Nat → FieldType, (∀ k, k < q.2.2 → parseFieldDescriptor (q.2.1 k).2.2.1 = some (ty k)) ∧ (∀ a, a < q.2.2 → ∀ b, b < q.2.2 → a ≠ b → (q.2.1 a).2.1 ≠ (q.2.1 b).2.1)
theorem eb_inX0 : ∀ k, k < 3 → u_lay RX0 TX0 k ∈ eb_ts
  | 0, _ => eb_mem 181 (by decide +kernel) rfl
  | 1, _ => eb_mem 183 (by decide +kernel) rfl
  | 2, _ => eb_mem 185 (by decide +kernel) rfl
  | k + 3, h => absurd h (by omega)
theorem eb_inX1 : ∀ k, k < 1 → u_lay RX1 TX1 k ∈ eb_ts
  | 0, _ => eb_mem 166 (by decide +kernel) rfl
  | k + 1, h => absurd h (by omega)
theorem eb_inX2 : ∀ k, k < 3 → u_lay RX2 TX2 k ∈ eb_ts
  | 0, _ => eb_mem 284 (by decide +kernel) rfl
  | 1, _ => eb_mem 286 (by decide +kernel) rfl
  | 2, _ => eb_mem 288 (by decide +kernel) rfl
  | k + 3, h => absurd h (by omega)
theorem eb_inX3 : ∀ k, k < 13 → u_lay RX3 TX3 k ∈ eb_ts
  | 0, _ => eb_mem 216 (by decide +kernel) rfl
  | 1, _ => eb_mem 218 (by decide +kernel) rfl
  | 2, _ => eb_mem 220 (by decide +kernel) rfl
  | 3, _ => eb_mem 222 (by decide +kernel) rfl
  | 4, _ => eb_mem 224 (by decide +kernel) rfl
  | 5, _ => eb_mem 226 (by decide +kernel) rfl
  | 6, _ => eb_mem 228 (by decide +kernel) rfl
  | 7, _ => eb_mem 230 (by decide +kernel) rfl
  | 8, _ => eb_mem 232 (by decide +kernel) rfl
  | 9, _ => eb_mem 234 (by decide +kernel) rfl
  | 10, _ => eb_mem 236 (by decide +kernel) rfl
  | 11, _ => eb_mem 238 (by decide +kernel) rfl
  | 12, _ => eb_mem 240 (by decide +kernel) rfl
  | k + 13, h => absurd h (by omega)
theorem eb_inX4 : ∀ k, k < 3 → u_lay RX4 TX4 k ∈ eb_ts
  | 0, _ => eb_mem 151 (by decide +kernel) rfl
  | 1, _ => eb_mem 153 (by decide +kernel) rfl
  | 2, _ => eb_mem 155 (by decide +kernel) rfl
  | k + 3, h => absurd h (by omega)
theorem eb_inX6 : ∀ k, k < 6 → u_lay RX6 TX6 k ∈ eb_ts
  | 0, _ => eb_mem 258 (by decide +kernel) rfl
  | 1, _ => eb_mem 260 (by decide +kernel) rfl
  | 2, _ => eb_mem 262 (by decide +kernel) rfl
  | 3, _ => eb_mem 264 (by decide +kernel) rfl
  | 4, _ => eb_mem 266 (by decide +kernel) rfl
  | 5, _ => eb_mem 268 (by decide +kernel) rfl
  | k + 6, h => absurd h (by omega)
theorem eb_inX7 : ∀ k, k < 6 → u_lay RX7 TX7 k ∈ eb_ts
  | 0, _ => eb_mem 97 (by decide +kernel) rfl
  | 1, _ => eb_mem 99 (by decide +kernel) rfl
  | 2, _ => eb_mem 101 (by decide +kernel) rfl
  | 3, _ => eb_mem 103 (by decide +kernel) rfl
  | 4, _ => eb_mem 105 (by decide +kernel) rfl
  | 5, _ => eb_mem 107 (by decide +kernel) rfl
  | k + 6, h => absurd h (by omega)
theorem eb_inX8 : ∀ k, k < 5 → u_lay RX8 TX8 k ∈ eb_ts
  | 0, _ => eb_mem 126 (by decide +kernel) rfl
  | 1, _ => eb_mem 128 (by decide +kernel) rfl
  | 2, _ => eb_mem 130 (by decide +kernel) rfl
  | 3, _ => eb_mem 132 (by decide +kernel) rfl
  | 4, _ => eb_mem 134 (by decide +kernel) rfl
  | k + 5, h => absurd h (by omega)
theorem eb_inX9 : ∀ k, k < 9 → u_lay RX9 TX9 k ∈ eb_ts
  | 0, _ => eb_mem 353 (by decide +kernel) rfl
  | 1, _ => eb_mem 355 (by decide +kernel) rfl
  | 2, _ => eb_mem 357 (by decide +kernel) rfl
  | 3, _ => eb_mem 359 (by decide +kernel) rfl
  | 4, _ => eb_mem 361 (by decide +kernel) rfl
  | 5, _ => eb_mem 363 (by decide +kernel) rfl
  | 6, _ => eb_mem 365 (by decide +kernel) rfl
  | 7, _ => eb_mem 367 (by decide +kernel) rfl
  | 8, _ => eb_mem 369 (by decide +kernel) rfl
  | k + 9, h => absurd h (by omega)
theorem eb_inX10 : ∀ k, k < 29 → u_lay RX10 TX10 k ∈ eb_ts
  | 0, _ => eb_mem 733 (by decide +kernel) rfl
  | 1, _ => eb_mem 735 (by decide +kernel) rfl
  | 2, _ => eb_mem 737 (by decide +kernel) rfl
  | 3, _ => eb_mem 739 (by decide +kernel) rfl
  | 4, _ => eb_mem 741 (by decide +kernel) rfl
  | 5, _ => eb_mem 743 (by decide +kernel) rfl
  | 6, _ => eb_mem 745 (by decide +kernel) rfl
  | 7, _ => eb_mem 747 (by decide +kernel) rfl
  | 8, _ => eb_mem 749 (by decide +kernel) rfl
  | 9, _ => eb_mem 751 (by decide +kernel) rfl
  | 10, _ => eb_mem 753 (by decide +kernel) rfl
  | 11, _ => eb_mem 755 (by decide +kernel) rfl
  | 12, _ => eb_mem 757 (by decide +kernel) rfl
  | 13, _ => eb_mem 759 (by decide +kernel) rfl
  | 14, _ => eb_mem 761 (by decide +kernel) rfl
  | 15, _ => eb_mem 763 (by decide +kernel) rfl
  | 16, _ => eb_mem 765 (by decide +kernel) rfl
  | 17, _ => eb_mem 767 (by decide +kernel) rfl
  | 18, _ => eb_mem 769 (by decide +kernel) rfl
  | 19, _ => eb_mem 771 (by decide +kernel) rfl
  | 20, _ => eb_mem 773 (by decide +kernel) rfl
  | 21, _ => eb_mem 775 (by decide +kernel) rfl
  | 22, _ => eb_mem 777 (by decide +kernel) rfl
  | 23, _ => eb_mem 779 (by decide +kernel) rfl
  | 24, _ => eb_mem 781 (by decide +kernel) rfl
  | 25, _ => eb_mem 783 (by decide +kernel) rfl
  | 26, _ => eb_mem 785 (by decide +kernel) rfl
  | 27, _ => eb_mem 787 (by decide +kernel) rfl
  | 28, _ => eb_mem 789 (by decide +kernel) rfl
  | k + 29, h => absurd h (by omega)
theorem eb_cls {ci : Nat} {q : vw_C} (h : vwCl[ci]? = some q) : eb_cok q := by
  match ci, h with
  | 0, h => cases h; exact ⟨eb_inX0, tyX0, tyX0_ok, nmX0⟩
  | 1, h => cases h; exact ⟨eb_inX1, tyX1, tyX1_ok, nmX1⟩
  | 2, h => cases h; exact ⟨eb_inX2, tyX2, tyX2_ok, nmX2⟩
  | 3, h => cases h; exact ⟨eb_inX3, tyX3, tyX3_ok, nmX3⟩
  | 4, h => cases h; exact ⟨eb_inX4, tyX4, tyX4_ok, nmX4⟩
  | 5, h => cases h; exact ⟨eb_inX6, tyX6, tyX6_ok, nmX6⟩
  | 6, h => cases h; exact ⟨eb_inX7, tyX7, tyX7_ok, nmX7⟩
  | 7, h => cases h; exact ⟨eb_inX8, tyX8, tyX8_ok, nmX8⟩
  | 8, h => cases h; exact ⟨eb_inX9, tyX9, tyX9_ok, nmX9⟩
  | 9, h => cases h; exact ⟨eb_inX10, tyX10, tyX10_ok, nmX10⟩
  | ci + 10, h => simp [vwCl] at h
theorem eb_cls_in {ci : Nat} {q : vw_C} (h : vwCl[ci]? = some q) : ∀ w ∈ u_ws q.1 q.2.1 q.2.2, w ∈ eb_ts := by
  intro w hw
  obtain ⟨k, hk, rfl⟩ := List.mem_map.mp hw
  exact (eb_cls h).1 k (List.mem_range.mp hk)
def eb_gf (M : eb_M) (pc pc' ci k : Nat) : Prop := ∃ (idx : Nat) (q : vw_C), decode (eb_code M) pc = .ok (.getfield idx, 3) ∧ pc + 3 = pc' ∧ vwCl[ci]? = some q ∧ k < q.2.2 ∧ Cond.fieldLink (eb_y M).cls idx (q.2.1 k).1 (q.2.1 k).2.1 (q.2.1 k).2.2.1 ∈ eb_ts
def eb_pf (M : eb_M) (pc pc' ci k : Nat) (fin : Bool) (ty : FieldType) : Prop := ∃ (idx : Nat) (q : vw_C), decode (eb_code M) pc = .ok (.putfield idx, 3) ∧ pc + 3 = pc' ∧ vwCl[ci]? = some q ∧ k < q.2.2 ∧ Cond.fieldLink (eb_y M).cls idx (q.2.1 k).1 (q.2.1 k).2.1 (q.2.1 k).2.2.1 ∈ eb_ts ∧ (q.2.1 k).2.2.2 = fin ∧ parseFieldDescriptor (q.2.1 k).2.2.1 = some ty ∧ (fin = true → (eb_y M).name = "<init>" ∧ (q.2.1 k).1 = (eb_y M).cls)
def eb_fit (ty : FieldType) (v : Value) : Prop := ∀ b0 bs, narrow ty (eb_v b0 bs v) = eb_v b0 bs v ∧ fits ty (eb_v b0 bs v) = true
theorem eb_fitI {x : Int32} : eb_fit .int (.int x) := fun _ _ => ⟨rfl, rfl⟩
theorem eb_fitJ {x : Int64} : eb_fit .long (.long x) := fun _ _ => ⟨rfl, rfl⟩
theorem eb_fitZ {a : Int} (h : a = 0 ∨ a = 1) : eb_fit .boolean (.int (eb_I a)) := fun _ _ => by rcases h with rfl | rfl <;> exact ⟨rfl, rfl⟩
theorem eb_fitA {t : FieldType} {k : Nat} : eb_fit (.array t) (.ref k) := fun _ _ => ⟨rfl, rfl⟩
theorem eb_fitO {n : String} {k : Nat} : eb_fit (.object n) (.ref k) := fun _ _ => ⟨rfl, rfl⟩
section EBF
variable {M : eb_M} {E : Nat → Nat → State → Prop} {pc pc' : Nat} {ls st : List Value} {z : eb_Z} {h : eb_H} {Q : Nat → List Value → List Value → eb_Z → eb_H → Prop}
theorem V_eqI {a b : Int} (he : a = b) (k : eb_V M E pc ls (.int (eb_I b) :: st) z h Q) : eb_V M E pc ls (.int (eb_I a) :: st) z h Q := by rw [he]; exact k
theorem V_eqh {h1 : eb_H} (he : h = h1) (k : eb_V M E pc ls st z h1 Q) : eb_V M E pc ls st z h Q := by rw [he]; exact k
theorem V_getf {ci k a : Nat} {fs : List Value} {v : Value} (hd : eb_gf M pc pc' ci k) (he : h a = .inr (ci, fs)) (hv : fs[k]? = some v) (kk : eb_V M E pc' ls (v :: st) z h Q) : eb_V M E pc ls (.ref a :: st) z h Q := by
  obtain ⟨idx, q, hd, rfl, hq, hk, hw⟩ := hd
  refine eb_V.go (fun l D cs b0 bs p e R s m args below meth c Zf C hE H locs l' hP hL kk => ?_) kk
  have hne : (Sum.inr (ci, fs) : va_E) ≠ .inr (99, []) := by
    intro e; cases e; simp [vwCl] at hq
  exact va_get (C := q.1) (T := q.2.1) (N := q.2.2) (ref := (q.2.1 k).1) C.1 C.2.1 C.2.2.2.2.1 (eb_cls_in hq) C.2.2.2.1 hP.2.1.1 hP.1 a (hP.w he hne) hq k hk (C.2.2.2.2.1 _ hw) (fun _ h9 => h9) (v := eb_v b0 bs v) (by rw [List.getElem?_map, hv]; rfl) hd (kk H locs l' hP hL)
theorem V_putf {ci k a : Nat} {fin : Bool} {ty : FieldType} {fs fs' : List Value} {v : Value} (hd : eb_pf M pc pc' ci k fin ty) (he : h a = .inr (ci, fs)) (hf : eb_fit ty v) (hs : fs.set k v = fs') (hl : k < fs.length) (kk : eb_V M E pc' ls st z (eb_up h a (.inr (ci, fs'))) Q) : eb_V M E pc ls (v :: .ref a :: st) z h Q := by
  obtain ⟨idx, q, hd, rfl, hq, hk, hw, hfin, hty, hfi⟩ := hd
  obtain ⟨hc1, ty0, hc2, hc3⟩ := eb_cls hq
  refine eb_V.go (fun l D cs b0 bs p e R s m args below meth c Zf C hE H locs l' hP hL kk => ?_) kk
  have hne : (Sum.inr (ci, fs) : va_E) ≠ .inr (99, []) := by
    intro e; cases e; simp [vwCl] at hq
  have hset : ((eb_w cs b0 bs z.1 h).set a (bs + a, .inr (ci, (fs.map (eb_v b0 bs)).set k (eb_v b0 bs v)))) = (eb_w cs b0 bs z.1 h).set a (bs + a, eb_e cs b0 bs (.inr (ci, fs'))) := by
    rw [← hs]; simp [eb_e, List.map_set]
  cases fin with
  | false =>
    refine va_put (C := q.1) (T := q.2.1) (N := q.2.2) (ref := (q.2.1 k).1) (v := eb_v b0 bs v) C.1 C.2.1 C.2.2.2.2.1 (eb_cls_in hq) ty0 hc2 hc3 C.2.2.2.1 hP.2.1.1 hP.1 eb_w_D hP.2.2.1 a (hP.w he hne) hq k hk (C.2.2.2.2.1 _ hw) (fun _ h9 => h9) hfin hty (hf b0 bs).1 (hf b0 bs).2 (by simpa using hl) hd (fun H1 locs1 h1 h2 h3 => kk H1 locs1 l' ?_ hL)
    rw [hset] at h1
    exact hP.up he hne h1 h3
  | true =>
    refine va_putF (C := q.1) (T := q.2.1) (N := q.2.2) (ref := (q.2.1 k).1) (v := eb_v b0 bs v) C.1 C.2.1 C.2.2.2.2.1 (eb_cls_in hq) ty0 hc2 hc3 C.2.2.2.1 hP.2.1.1 hP.1 eb_w_D hP.2.2.1 a (hP.w he hne) hq k hk (C.2.2.2.2.1 _ hw) (fun _ h9 => h9) hfin (C.2.2.2.2.2.2.2 (hfi rfl).1) (hfi rfl).2 hty (hf b0 bs).1 (hf b0 bs).2 (by simpa using hl) hd (fun H1 locs1 h1 h2 h3 => kk H1 locs1 l' ?_ hL)
    rw [hset] at h1
    exact hP.up he hne h1 h3
end EBF
end
section
section EBA
variable {M : eb_M} {E : Nat → Nat → State → Prop} {pc pc' : Nat} {ls st : List Value} {z : eb_Z} {h : eb_H} {Q : Nat → List Value → List Value → eb_Z → eb_H → Prop}
theorem V_iald {a n : Nat} {f : Nat → Int} {i : Int} (hd : eb_at M pc pc' .iaload 1) (he : h a = eb_ia n f) (hi : 0 ≤ i ∧ i < (n : Int) ∧ n ≤ 2147483647) (k : eb_V M E pc' ls (.int (eb_I (f i.toNat)) :: st) z h Q) : eb_V M E pc ls (.int (eb_I i) :: .ref a :: st) z h Q := by
  obtain ⟨hd, rfl⟩ := hd
  refine eb_V.go (fun l D cs b0 bs p e R s m args below meth c Zf C hE H locs l' hP hL kk => ?_) k
  exact va_iald C.1 C.2.1 hP.2.1.1 hP.1 a 0 (hP.w he (by intro e; cases e)) rfl (eb_I_in ⟨hi.1, hi.2.1⟩ hi.2.2) hd (by simp only [eb_I_nat (show 0 ≤ i ∧ i ≤ 2147483647 by omega)]; exact kk H locs l' hP hL)
theorem V_lald {a n : Nat} {f : Nat → Int} {i : Int} (hd : eb_at M pc pc' .laload 1) (he : h a = eb_la n f) (hi : 0 ≤ i ∧ i < (n : Int) ∧ n ≤ 2147483647) (k : eb_V M E pc' ls (.long (eb_J (f i.toNat)) :: st) z h Q) : eb_V M E pc ls (.int (eb_I i) :: .ref a :: st) z h Q := by
  obtain ⟨hd, rfl⟩ := hd
  refine eb_V.go (fun l D cs b0 bs p e R s m args below meth c Zf C hE H locs l' hP hL kk => ?_) k
  exact va_lald C.1 C.2.1 hP.2.1.1 hP.1 a 1 (hP.w he (by intro e; cases e)) rfl (eb_I_in ⟨hi.1, hi.2.1⟩ hi.2.2) hd (by simp only [eb_I_nat (show 0 ≤ i ∧ i ≤ 2147483647 by omega)]; exact kk H locs l' hP hL)
theorem V_zald {a n : Nat} {f : Nat → Int} {i : Int} (hd : eb_at M pc pc' .baload 1) (he : h a = eb_za n f) (hi : 0 ≤ i ∧ i < (n : Int) ∧ n ≤ 2147483647) (k : eb_V M E pc' ls (.int (eb_I (f i.toNat)) :: st) z h Q) : eb_V M E pc ls (.int (eb_I i) :: .ref a :: st) z h Q := by
  obtain ⟨hd, rfl⟩ := hd
  refine eb_V.go (fun l D cs b0 bs p e R s m args below meth c Zf C hE H locs l' hP hL kk => ?_) k
  exact va_zald C.1 C.2.1 hP.2.1.1 hP.1 a 2 (hP.w he (by intro e; cases e)) rfl (eb_I_in ⟨hi.1, hi.2.1⟩ hi.2.2) hd (by simp only [eb_I_nat (show 0 ≤ i ∧ i ≤ 2147483647 by omega)]; exact kk H locs l' hP hL)
theorem V_aald {a n t q : Nat} {f : Nat → Option Nat} {i : Int} (hd : eb_at M pc pc' .aaload 1) (ht : t = 3 ∨ t = 4) (he : h a = eb_qa t n f) (hi : 0 ≤ i ∧ i < (n : Int) ∧ n ≤ 2147483647) (hq : f i.toNat = some q) (k : eb_V M E pc' ls (.ref q :: st) z h Q) : eb_V M E pc ls (.int (eb_I i) :: .ref a :: st) z h Q := by
  obtain ⟨hd, rfl⟩ := hd
  refine eb_V.go (fun l D cs b0 bs p e R s m args below meth c Zf C hE H locs l' hP hL kk => ?_) k
  have kk1 := kk H locs l' hP hL
  rcases ht with rfl | rfl
  · refine va_aldq C.1 C.2.1 hP.2.1.1 hP.1 a 3 (hP.w he (by intro e; cases e)) rfl (eb_I_in ⟨hi.1, hi.2.1⟩ hi.2.2) hd ?_
    simp only [eb_I_nat (show 0 ≤ i ∧ i ≤ 2147483647 by omega), hq]
    exact kk1
  · refine va_aldq C.1 C.2.1 hP.2.1.1 hP.1 a 4 (hP.w he (by intro e; cases e)) rfl (eb_I_in ⟨hi.1, hi.2.1⟩ hi.2.2) hd ?_
    simp only [eb_I_nat (show 0 ≤ i ∧ i ≤ 2147483647 by omega), hq]
    exact kk1
theorem V_iast {a n : Nat} {f : Nat → Int} {i x : Int} (hd : eb_at M pc pc' .iastore 1) (he : h a = eb_ia n f) (hi : 0 ≤ i ∧ i < (n : Int) ∧ n ≤ 2147483647) (k : eb_V M E pc' ls st z (eb_up h a (eb_ia n (eb_set f i.toNat x))) Q) : eb_V M E pc ls (.int (eb_I x) :: .int (eb_I i) :: .ref a :: st) z h Q := by
  obtain ⟨hd, rfl⟩ := hd
  refine eb_V.go (fun l D cs b0 bs p e R s m args below meth c Zf C hE H locs l' hP hL kk => ?_) k
  refine va_iast C.1 C.2.1 hP.2.1.1 hP.1 eb_w_D hP.2.2.1 a 0 (hP.w he (by intro e; cases e)) rfl (eb_I_in ⟨hi.1, hi.2.1⟩ hi.2.2) hd (fun H1 locs1 h1 h2 h3 => kk H1 locs1 l' ?_ hL)
  rw [eb_I_nat (show 0 ≤ i ∧ i ≤ 2147483647 by omega), eb_upd_I] at h1
  exact hP.up he (by intro e; cases e) h1 h3
theorem V_last {a n : Nat} {f : Nat → Int} {i x : Int} (hd : eb_at M pc pc' .lastore 1) (he : h a = eb_la n f) (hi : 0 ≤ i ∧ i < (n : Int) ∧ n ≤ 2147483647) (k : eb_V M E pc' ls st z (eb_up h a (eb_la n (eb_set f i.toNat x))) Q) : eb_V M E pc ls (.long (eb_J x) :: .int (eb_I i) :: .ref a :: st) z h Q := by
  obtain ⟨hd, rfl⟩ := hd
  refine eb_V.go (fun l D cs b0 bs p e R s m args below meth c Zf C hE H locs l' hP hL kk => ?_) k
  refine va_last C.1 C.2.1 hP.2.1.1 hP.1 eb_w_D hP.2.2.1 a 1 (hP.w he (by intro e; cases e)) rfl (eb_I_in ⟨hi.1, hi.2.1⟩ hi.2.2) hd (fun H1 locs1 h1 h2 h3 => kk H1 locs1 l' ?_ hL)
  rw [eb_I_nat (show 0 ≤ i ∧ i ≤ 2147483647 by omega)] at h1
  refine hP.up he (by intro e; cases e) (e := eb_la n (eb_set f i.toNat x)) ?_ h3
  have : (fun j => eb_J (eb_set f i.toNat x j)) = fun j => if j = i.toNat then eb_J x else eb_J (f j) := by funext j; simp only [eb_set]; split <;> rfl
  show va_P D vwCl ((eb_w cs b0 bs z.1 h).set a (bs + a, .inl (cs 1, n, .inr (.inl (fun j => eb_J (eb_set f i.toNat x j)))))) H1
  rw [this]
  exact h1
theorem V_zast {a n : Nat} {f : Nat → Int} {i x : Int} (hd : eb_at M pc pc' .bastore 1) (he : h a = eb_za n f) (hi : 0 ≤ i ∧ i < (n : Int) ∧ n ≤ 2147483647) (hx : x = 0 ∨ x = 1) (k : eb_V M E pc' ls st z (eb_up h a (eb_za n (eb_set f i.toNat x))) Q) : eb_V M E pc ls (.int (eb_I x) :: .int (eb_I i) :: .ref a :: st) z h Q := by
  obtain ⟨hd, rfl⟩ := hd
  refine eb_V.go (fun l D cs b0 bs p e R s m args below meth c Zf C hE H locs l' hP hL kk => ?_) k
  refine va_zast C.1 C.2.1 hP.2.1.1 hP.1 eb_w_D hP.2.2.1 a 2 (hP.w he (by intro e; cases e)) rfl (eb_I_in ⟨hi.1, hi.2.1⟩ hi.2.2) hd (fun H1 locs1 h1 h2 h3 => kk H1 locs1 l' ?_ hL)
  have hn : vp_nar .boolean (eb_I x) = eb_I x := by rcases hx with rfl | rfl <;> rfl
  rw [eb_I_nat (show 0 ≤ i ∧ i ≤ 2147483647 by omega), hn, eb_upd_I] at h1
  exact hP.up he (by intro e; cases e) h1 h3
theorem V_aast {a n t q ci : Nat} {f : Nat → Option Nat} {fs : List Value} {i : Int} (hd : eb_at M pc pc' .aastore 1) (ht : (t = 3 ∧ ci = 6) ∨ (t = 4 ∧ ci = 2)) (he : h a = eb_qa t n f) (hv : h q = .inr (ci, fs)) (hi : 0 ≤ i ∧ i < (n : Int) ∧ n ≤ 2147483647) (k : eb_V M E pc' ls st z (eb_up h a (eb_qa t n (eb_set f i.toNat (some q)))) Q) : eb_V M E pc ls (.ref q :: .int (eb_I i) :: .ref a :: st) z h Q := by
  obtain ⟨hd, rfl⟩ := hd
  refine eb_V.go (fun l D cs b0 bs p e R s m args below meth c Zf C hE H locs l' hP hL kk => ?_) k
  have key : (fun j => (eb_set f i.toNat (some q) j).map (fun k => bs + k)) = va_up (fun j => (f j).map (fun k => bs + k)) i.toNat (some (bs + q)) := by
    funext j; simp only [eb_set, va_up]; split <;> rfl
  rcases ht with ⟨rfl, rfl⟩ | ⟨rfl, rfl⟩
  · refine va_astq (r := (RX7, TX7, 6)) C.1 C.2.1 hP.2.1.1 hP.1 eb_w_D hP.2.2.1 a 3 q 6 (hP.w he (by intro e; cases e)) rfl (hP.w hv (by intro e; cases e)) rfl (eb_I_in ⟨hi.1, hi.2.1⟩ hi.2.2) hd (fun H1 locs1 h1 h2 h3 => kk H1 locs1 l' ?_ hL)
    rw [eb_I_nat (show 0 ≤ i ∧ i ≤ 2147483647 by omega), ← key] at h1
    exact hP.up he (by intro e; cases e) (e := eb_qa 3 n (eb_set f i.toNat (some q))) h1 h3
  · refine va_astq (r := (RX2, TX2, 3)) C.1 C.2.1 hP.2.1.1 hP.1 eb_w_D hP.2.2.1 a 4 q 2 (hP.w he (by intro e; cases e)) rfl (hP.w hv (by intro e; cases e)) rfl (eb_I_in ⟨hi.1, hi.2.1⟩ hi.2.2) hd (fun H1 locs1 h1 h2 h3 => kk H1 locs1 l' ?_ hL)
    rw [eb_I_nat (show 0 ≤ i ∧ i ≤ 2147483647 by omega), ← key] at h1
    exact hP.up he (by intro e; cases e) (e := eb_qa 4 n (eb_set f i.toNat (some q))) h1 h3
theorem V_alen {a n : Nat} {f : Nat → Int} (hd : eb_at M pc pc' .arraylength 1) (he : h a = eb_ia n f) (k : eb_V M E pc' ls (.int (eb_I n) :: st) z h Q) : eb_V M E pc ls (.ref a :: st) z h Q := by
  obtain ⟨hd, rfl⟩ := hd
  refine eb_V.go (fun l D cs b0 bs p e R s m args below meth c Zf C hE H locs l' hP hL kk => ?_) k
  exact va_alen C.1 C.2.1 hP.2.1.1 hP.1 a 0 (hP.w he (by intro e; cases e)) rfl (by show Int32.ofNat n = _; exact (Int32.ofInt_eq_ofNat (n := n)).symm) hd (kk H locs l' hP hL)
/-- switches -/
theorem V_tswOut {d lo hi a : Int} {offs : Array Int} {n tgt : Nat} (hd : eb_at M pc pc' (.tableswitch d lo hi offs) n) (hr : -2147483648 ≤ a ∧ a ≤ 2147483647) (hh : a < lo ∨ hi < a) (ht : (pc : Int) + d = (tgt : Int)) (k : eb_V M E tgt ls st z h Q) : eb_V M E pc ls (.int (eb_I a) :: st) z h Q := by
  obtain ⟨hd, rfl⟩ := hd
  refine eb_V.go (fun l D cs b0 bs p e R s m args below meth c Zf C hE H locs l' hP hL kk => ?_) k
  exact lv_tableOut (tgt := tgt) C.1 C.2.1 hd (by rw [eb_I_to hr]; exact hh) ht (kk H locs l' hP hL)
theorem V_tswIn {d lo hi a off : Int} {offs : Array Int} {n tgt : Nat} (hd : eb_at M pc pc' (.tableswitch d lo hi offs) n) (hr : -2147483648 ≤ a ∧ a ≤ 2147483647) (hh : lo ≤ a ∧ a ≤ hi) (ho : offs[(a - lo).toNat]? = some off) (ht : (pc : Int) + off = (tgt : Int)) (k : eb_V M E tgt ls st z h Q) : eb_V M E pc ls (.int (eb_I a) :: st) z h Q := by
  obtain ⟨hd, rfl⟩ := hd
  refine eb_V.go (fun l D cs b0 bs p e R s m args below meth c Zf C hE H locs l' hP hL kk => ?_) k
  exact lv_tableIn (tgt := tgt) C.1 C.2.1 hd (by rw [eb_I_to hr]; omega) (by rw [eb_I_to hr]; omega) (by rw [eb_I_to hr]; exact ho) ht (kk H locs l' hP hL)
theorem V_lsw {d a off : Int} {ps : Array (Int × Int)} {n tgt : Nat} (hd : eb_at M pc pc' (.lookupswitch d ps) n) (hr : -2147483648 ≤ a ∧ a ≤ 2147483647) (hp : (ps.toList.zip (ps.toList.drop 1)).all (fun (a, next) => a.1 < next.1) = true) (ho : Op.lookupswitch.offset ps.toList d a = off) (ht : (pc : Int) + off = (tgt : Int)) (k : eb_V M E tgt ls st z h Q) : eb_V M E pc ls (.int (eb_I a) :: st) z h Q := by
  obtain ⟨hd, rfl⟩ := hd
  refine eb_V.go (fun l D cs b0 bs p e R s m args below meth c Zf C hE H locs l' hP hL kk => ?_) k
  exact lv_lookup (tgt := tgt) C.1 C.2.1 hd hp (by rw [eb_I_to hr]; exact ho) ht (kk H locs l' hP hL)
/-- ends -/
theorem V_iret {n c s : Nat} {x : Int} {ty : FieldType} {Qr : Option Value → Nat → eb_H → Prop} (hd : eb_at M pc pc' .ireturn 1) (hc : c ≤ eb_mc M ∧ s ≤ eb_ms M) (hr : eb_ret M = some ty) (hn : narrow ty (.int (eb_I x)) = .int (eb_I x)) (hq : Qr (some (.int (eb_I x))) n h) : eb_V M E pc ls [.int (eb_I x)] (n, c, s) h (eb_R M Qr) :=
  eb_V.done ⟨hc, _, hq, Or.inl ⟨_, ty, hd.1, rfl, rfl, hr, hn⟩⟩
theorem V_lret {n c s : Nat} {x : Int} {Qr : Option Value → Nat → eb_H → Prop} (hd : eb_at M pc pc' .lreturn 1) (hc : c ≤ eb_mc M ∧ s ≤ eb_ms M) (hr : eb_ret M = some .long) (hq : Qr (some (.long (eb_J x))) n h) : eb_V M E pc ls [.long (eb_J x)] (n, c, s) h (eb_R M Qr) :=
  eb_V.done ⟨hc, _, hq, Or.inr (Or.inl ⟨_, hd.1, rfl, rfl, hr⟩)⟩
theorem V_vret {n c s : Nat} {Qr : Option Value → Nat → eb_H → Prop} (hd : eb_at M pc pc' .return_ 1) (hc : c ≤ eb_mc M ∧ s ≤ eb_ms M) (hr : eb_ret M = none) (hq : Qr none n h) : eb_V M E pc ls [] (n, c, s) h (eb_R M Qr) :=
  eb_V.done ⟨hc, _, hq, Or.inr (Or.inr (Or.inl ⟨hd.1, rfl, rfl, hr⟩))⟩
theorem V_aret {n c s k : Nat} {rt : FieldType} {Qr : Option Value → Nat → eb_H → Prop} (hd : eb_at M pc pc' .areturn 1) (hc : c ≤ eb_mc M ∧ s ≤ eb_ms M) (hr : eb_ret M = some rt) (hk : (∃ n, rt = .object n) ∨ ∃ t, rt = .array t) (hq : Qr (some (.ref k)) n h) : eb_V M E pc ls [.ref k] (n, c, s) h (eb_R M Qr) :=
  eb_V.done ⟨hc, _, hq, Or.inr (Or.inr (Or.inr ⟨k, rt, hd.1, rfl, rfl, hr, hk⟩))⟩
end EBA
/-- what a call asks of the method that it calls -/
def eb_okm (M : eb_M) (np : Nat) : Prop := Cond.code (eb_y M) (eb_code M) (eb_nl M) (eb_ret M) ∈ eb_ts ∧ Cond.initialized (eb_y M).cls ∈ eb_ts ∧ ((eb_y M).cls ≠ "java/lang/invoke/MethodHandle" ∧ (eb_y M).cls ≠ "java/lang/invoke/VarHandle" ∧ (parseMethodDescriptor (eb_y M).desc).map (fun d => d.parameters.length) = some np) ∧ eb_nl M ≤ 17
def eb_cv (M : eb_M) (pc pc' : Nat) (M' : eb_M) (np : Nat) : Prop := ∃ (idx : Nat) (q : vw_C), decode (eb_code M) pc = .ok (.invokevirtual idx, 3) ∧ pc + 3 = pc' ∧ Cond.methodLink (eb_y M).cls idx (eb_y M') ∈ eb_ts ∧ Cond.instanceMethod (eb_y M') ∈ eb_ts ∧ Cond.selects (eb_y M').cls (eb_y M') (eb_y M') ∈ eb_ts ∧ eb_lv M' + 1 ≤ eb_lv M ∧ vwCl[eb_ci M']? = some q ∧ q.1 = (eb_y M').cls ∧ eb_okm M' np
def eb_cs (M : eb_M) (pc pc' : Nat) (M' : eb_M) (np : Nat) : Prop := ∃ (idx : Nat), decode (eb_code M) pc = .ok (.invokestatic idx, 3) ∧ pc + 3 = pc' ∧ Cond.methodLink (eb_y M).cls idx (eb_y M') ∈ eb_ts ∧ Cond.static (eb_y M') ∈ eb_ts ∧ eb_lv M' + 1 ≤ eb_lv M ∧ eb_okm M' np
def eb_cc (M : eb_M) (pc pc' : Nat) (M' : eb_M) (np : Nat) : Prop := ∃ (idx : Nat), decode (eb_code M) pc = .ok (.invokespecial idx, 3) ∧ pc + 3 = pc' ∧ (Cond.methodLink (eb_y M).cls idx (eb_y M') ∈ eb_ts ∨ ∃ host, Cond.methodLinkNest (eb_y M).cls idx (eb_y M') host ∈ eb_nw) ∧ (eb_y M').name = "<init>" ∧ Cond.instanceMethod (eb_y M') ∈ eb_ts ∧ eb_lv M' + 1 ≤ eb_lv M ∧ eb_ret M' = none ∧ eb_okm M' np
theorem eb_good {M : eb_M} {np : Nat} (h : eb_okm M np) : GoodIn eb_ts (eb_ws M) := by
  intro w hw
  have hm : w ∈ eb_ts := by
    rcases List.mem_cons.mp hw with rfl | hw
    · exact h.1
    · exact hw
  exact ⟨hm, good_of_word (List.mem_filter.mp hm).2⟩
section EBK
variable {p : Program} {l : Launch} {e : Env} {R : Room} {s : State} {m : MethodId} {args : Array Value} {below : List Frame} {meth : Method} {c : Code} {H : Heap} {locs : List Loc} {Zf : State → Prop} {D : va_G} {cs : Nat → ClassId} {b0 bs : Nat} {pc : Nat} {l' : Array Slot} {rest st0 : List Value} {a : Array Value}
theorem eb_after {M' : eb_M} {z : eb_Z} {h : eb_H} {Q' : Option Value → Nat → eb_H → Prop} (hP : eb_P D cs b0 bs s z h H locs) (hz : H.size = bs + z.1)
    (hr : va_Run p l e R s m args below meth c H locs z.2.1 z.2.2 (eb_mc M') (eb_ms M') (F0 m pc l' st0) rest (fun st oc t => (∃ (r : Option Value) (n' : Nat) (h' : eb_H), oc = .returned (r.map (eb_v b0 bs)) ∧ Q' r n' h' ∧ t.heap.size = bs + n' ∧ va_P D vwCl (eb_w cs b0 bs n' h') t.heap ∧ eb_wf n' h') ∧ va_F (fun q => bs ≤ q) st t) (fun q => bs ≤ q))
    (hmc : eb_mc M' = 0 ∨ ∀ r n' h', Q' r n' h' → z.1 + eb_mc M' ≤ n')
    (kk : ∀ (r : Option Value) (n' : Nat) (h' : eb_H) (H1 : Heap) (locs1 : List Loc), Q' r n' h' → eb_P D cs b0 bs s (n', z.2.1 + eb_mc M', z.2.2 + eb_ms M') h' H1 locs1 → W p l e R s m args below meth c H1 locs1 (z.2.1 + eb_mc M') (z.2.2 + eb_ms M') Zf (F0 m (pc + 3) l' ((r.map (eb_v b0 bs)).toList ++ rest))) :
    W p l e R s m args below meth c H locs z.2.1 z.2.2 Zf (F0 m pc l' st0) := by
  intro T hT X
  obtain ⟨v, st₀, t, T', L, h0, X', hL, e1, e2, ⟨⟨r, n', h', hv, hq, hz1, hP1, hw1⟩, hF⟩, st⟩ := hr T hT X
  cases hv
  obtain ⟨hPa, hPb, hPc, ⟨hPd, hPe⟩, hPf⟩ := hP
  have hF1 := hF.1
  have hF2 := hF.2
  rw [h0] at hF1 hF2
  have hsz : s.heap.size + (z.2.1 + eb_mc M') ≤ bs + n' := by
    rcases hmc with q | q
    · rw [hz, hz1] at hF1
      omega
    · have := q r n' h' hq
      omega
  obtain ⟨t2, a1, b1⟩ := kk r n' h' T'.heap (locs ++ L) hq ⟨by rw [e1]; exact hP1, hPb, ⟨Nat.le_trans hPc.1 (by rw [e1]; exact hF1), fun q h1 h2 => by
      rw [e1, hF2 q (Nat.lt_of_lt_of_le h1 hPc.1) h2]
      exact hPc.2.1 q h1 h2, fun q hq => by
      rcases List.mem_append.mp hq with h | h
      · exact hPc.2.2 q h
      · exact hL q h⟩, ⟨hsz, hPe⟩, hw1⟩ T' rfl X'
  exact ⟨t2, st t2 a1, b1⟩
theorem eb_blind {as : List Value} {n : Nat} {h : eb_H} : FrameBlind (va_Pc (as.map (eb_v b0 bs)) (fun U => U.heap.size = bs + n ∧ va_P D vwCl (eb_w cs b0 bs n h) U.heap ∧ eb_K D cs U ∧ eb_wf n h)) :=
  fun a U g mk q => ⟨q.1, q.2.1, q.2.2.1, q.2.2.2.1.calling, q.2.2.2.2⟩
end EBK
theorem eb_room {b0 bs : Nat} {st : List Value} (h : (st.map Value.category).sum ≤ 8) : ((st.map (eb_v b0 bs)).map fun v => v.category).sum ≤ 8 := by
  rw [List.map_map]
  have : ((fun v => Value.category v) ∘ eb_v b0 bs) = Value.category := by funext v; exact eb_v_cat b0 bs v
  rw [this]
  exact h
section EBC
variable {M : eb_M} {E : Nat → Nat → State → Prop} {pc pc' : Nat} {ls st stk : List Value} {n c s : Nat} {h : eb_H} {Q : Nat → List Value → List Value → eb_Z → eb_H → Prop}
theorem V_callv {M' : eb_M} {np b : Nat} {As fs : List Value} {Q' : Option Value → Nat → eb_H → Prop} (hd : eb_cv M pc pc' M' np) (T : eb_T M' (.ref b :: As) n h Q') (he : h b = .inr (eb_ci M', fs)) (hs : stk = As.reverse ++ .ref b :: st) (hn : As.length = np) (hst : (st.map Value.category).sum ≤ 8) (hc : c + eb_mc M' ≤ eb_mc M ∧ s + eb_ms M' ≤ eb_ms M) (hmc : eb_mc M' = 0 ∨ ∀ r n' h', Q' r n' h' → n + eb_mc M' ≤ n')
    (k : ∀ r n' h', Q' r n' h' → eb_V M E pc' ls (r.toList ++ st) (n', c + eb_mc M', s + eb_ms M') h' Q) : eb_V M E pc ls stk (n, c, s) h Q := by
  obtain ⟨idx, q, hd, rfl, hlk, hin, hse, hlv, hq, hqc, hok⟩ := hd
  intro l D cs b0 bs p e R s' m args below meth c' Zf C hE hqq H locs l' hP hL
  refine eb_sized (fun hsz => ?_)
  have hz := hP.size hsz
  have hts := C.2.2.2.2.1
  have hR := C.2.2.2.2.2.1
  have hC := C.2.2.2.2.2.2.1
  have cw : CallW R s' args (eb_y M).cls (eb_y M').cls idx (eb_y M') (eb_code M') (eb_nl M') (eb_ret M') (eb_ws M') (eb_rm M') (eb_mc M') (eb_ms M') np :=
    ⟨callB_of np hts (eb_good hok) rfl rfl rfl (hts _ hok.2.1) (hts _ hlk) hok.2.2.1 ⟨by show eb_lv M' + 1 ≤ R.frames; omega, by show 8 + (eb_nl M' + 11) + 36 * eb_lv M' ≤ R.locals; have := hok.2.2.2; omega⟩, hts _ hin, hts _ hse⟩
  have hne : (Sum.inr (eb_ci M', fs) : va_E) ≠ .inr (99, []) := by
    intro e
    have e1 : eb_ci M' = 99 := congrArg Prod.fst (Sum.inr.inj e)
    rw [e1] at hq; simp [vwCl] at hq
  have hrec := va_recv hP.2.1.1 hP.1 hq (hP.w he hne)
  rw [hqc] at hrec
  refine eb_after (M' := M') (rest := st.map (eb_v b0 bs)) hP hz (va_runV (As := As.map (eb_v b0 bs)) (b := bs + b) ⟨C.1, C.2.1, C.2.2.1, C.2.2.2.1, hts⟩ (T l D cs b0 bs) cw ⟨eb_blind, hrec, fun U hU hW => ⟨rfl, by rw [hU]; exact hz, by rw [hU]; exact hP.1, hP.2.1.warm hW, hP.2.2.2.2⟩⟩ rfl (by simpa using hn) hL.1 (by rw [hs]; simp [eb_v]) (lv_room (eb_room hst)) hd ⟨by simp only; omega, by simp only; omega⟩) hmc ?_
  intro r n' h' H1 locs1 hq' hP1
  have := k r n' h' hq' l D cs b0 bs p e R s' m args below meth c' Zf C hE hqq H1 locs1 l' hP1 hL
  rw [List.map_append, show List.map (eb_v b0 bs) r.toList = (r.map (eb_v b0 bs)).toList by cases r <;> rfl] at this
  exact this
theorem V_calls {M' : eb_M} {np : Nat} {As : List Value} {Q' : Option Value → Nat → eb_H → Prop} (hd : eb_cs M pc pc' M' np) (T : eb_T M' As n h Q') (hs : stk = As.reverse ++ st) (hn : As.length = np) (hst : (st.map Value.category).sum ≤ 8) (hc : c + eb_mc M' ≤ eb_mc M ∧ s + eb_ms M' ≤ eb_ms M) (hmc : eb_mc M' = 0 ∨ ∀ r n' h', Q' r n' h' → n + eb_mc M' ≤ n')
    (k : ∀ r n' h', Q' r n' h' → eb_V M E pc' ls (r.toList ++ st) (n', c + eb_mc M', s + eb_ms M') h' Q) : eb_V M E pc ls stk (n, c, s) h Q := by
  obtain ⟨idx, hd, rfl, hlk, hstt, hlv, hok⟩ := hd
  intro l D cs b0 bs p e R s' m args below meth c' Zf C hE hqq H locs l' hP hL
  refine eb_sized (fun hsz => ?_)
  have hz := hP.size hsz
  have hts := C.2.2.2.2.1
  have hR := C.2.2.2.2.2.1
  have hC := C.2.2.2.2.2.2.1
  have cw : CallB R s' args (eb_y M).cls idx (eb_y M') (eb_code M') (eb_nl M') (eb_ret M') (eb_ws M') (eb_rm M') (eb_mc M') (eb_ms M') np :=
    callB_of np hts (eb_good hok) rfl rfl rfl (hts _ hok.2.1) (hts _ hlk) hok.2.2.1 ⟨by show eb_lv M' + 1 ≤ R.frames; omega, by show 8 + (eb_nl M' + 11) + 36 * eb_lv M' ≤ R.locals; have := hok.2.2.2; omega⟩
  refine eb_after (M' := M') (rest := st.map (eb_v b0 bs)) hP hz (va_runS (As := As.map (eb_v b0 bs)) ⟨C.1, C.2.1, C.2.2.1, C.2.2.2.1, hts⟩ (T l D cs b0 bs) ⟨cw, hts _ hstt⟩ ⟨eb_blind, fun U hU hW => ⟨rfl, by rw [hU]; exact hz, by rw [hU]; exact hP.1, hP.2.1.warm hW, hP.2.2.2.2⟩⟩ rfl (by simpa using hn) hL.1 (by rw [hs]; simp) (lv_room (eb_room hst)) hd ⟨by simp only; omega, by simp only; omega⟩) hmc ?_
  intro r n' h' H1 locs1 hq' hP1
  have := k r n' h' hq' l D cs b0 bs p e R s' m args below meth c' Zf C hE hqq H1 locs1 l' hP1 hL
  rw [List.map_append, show List.map (eb_v b0 bs) r.toList = (r.map (eb_v b0 bs)).toList by cases r <;> rfl] at this
  exact this
theorem V_callc {M' : eb_M} {np b : Nat} {As : List Value} {Q' : Option Value → Nat → eb_H → Prop} (hd : eb_cc M pc pc' M' np) (T : eb_T M' (.ref b :: As) n h Q') (hs : stk = As.reverse ++ .ref b :: st) (hn : As.length = np) (hst : (st.map Value.category).sum ≤ 8) (hc : c + eb_mc M' ≤ eb_mc M ∧ s + eb_ms M' ≤ eb_ms M) (hmc : eb_mc M' = 0 ∨ ∀ r n' h', Q' r n' h' → n + eb_mc M' ≤ n')
    (k : ∀ r n' h', Q' r n' h' → eb_V M E pc' ls (r.toList ++ st) (n', c + eb_mc M', s + eb_ms M') h' Q) : eb_V M E pc ls stk (n, c, s) h Q := by
  obtain ⟨idx, hd, rfl, hlk, hy1, hin, hlv, hret, hok⟩ := hd
  intro l D cs b0 bs p e R s' m args below meth c' Zf C hE hqq H locs l' hP hL
  refine eb_sized (fun hsz => ?_)
  have hz := hP.size hsz
  have hts := C.2.2.2.2.1
  have hR := C.2.2.2.2.2.1
  have hC := C.2.2.2.2.2.2.1
  have hrm : (eb_rm M').frames + 1 ≤ R.frames ∧ 8 + (eb_nl M' + 11) + (eb_rm M').locals ≤ R.locals := ⟨by show eb_lv M' + 1 ≤ R.frames; omega, by show 8 + (eb_nl M' + 11) + 36 * eb_lv M' ≤ R.locals; have := hok.2.2.2; omega⟩
  have hw0 : eb_ws M' = Cond.code (eb_y M') (eb_code M') (eb_nl M') none :: eb_ts := by rw [← hret]; rfl
  have fin : ∀ (hr : va_Run p l e R s' m args below meth c' H locs c s (eb_mc M') (eb_ms M') (F0 m pc l' (stk.map (eb_v b0 bs))) (st.map (eb_v b0 bs)) (fun st oc t => (∃ (r : Option Value) (n' : Nat) (h' : eb_H), oc = .returned (r.map (eb_v b0 bs)) ∧ Q' r n' h' ∧ t.heap.size = bs + n' ∧ va_P D vwCl (eb_w cs b0 bs n' h') t.heap ∧ eb_wf n' h') ∧ va_F (fun q => bs ≤ q) st t) (fun q => bs ≤ q)), W p l e R s' m args below meth c' H locs c s Zf (F0 m pc l' (stk.map (eb_v b0 bs))) := by
    intro hr
    refine eb_after (M' := M') (z := (n, c, s)) (rest := st.map (eb_v b0 bs)) hP hz hr hmc ?_
    intro r n' h' H1 locs1 hq' hP1
    have := k r n' h' hq' l D cs b0 bs p e R s' m args below meth c' Zf C hE hqq H1 locs1 l' hP1 hL
    rw [List.map_append, show List.map (eb_v b0 bs) r.toList = (r.map (eb_v b0 bs)).toList by cases r <;> rfl] at this
    exact this
  have hpre : PreS s' H (va_Pc ((Value.ref b :: As).map (eb_v b0 bs)) (fun U => U.heap.size = bs + n ∧ va_P D vwCl (eb_w cs b0 bs n h) U.heap ∧ eb_K D cs U ∧ eb_wf n h)) (.ref (bs + b) :: As.map (eb_v b0 bs)) :=
    ⟨eb_blind, fun U hU hW => ⟨rfl, by rw [hU]; exact hz, by rw [hU]; exact hP.1, hP.2.1.warm hW, hP.2.2.2.2⟩⟩
  rcases hlk with hlk | ⟨host, hlk⟩
  · exact fin (va_runI (As := As.map (eb_v b0 bs)) (b := bs + b) ⟨C.1, C.2.1, C.2.2.1, C.2.2.2.1, hts⟩ (T l D cs b0 bs) (cwI np hts (eb_good hok) hw0 rfl rfl (hts _ hok.2.1) (hts _ hlk) (hts _ hin) hy1 hok.2.2.1 hrm) hpre rfl (by simpa using hn) hL.1 (by rw [hs]; simp [eb_v]) (lv_room (eb_room hst)) hd ⟨by omega, by omega⟩)
  · exact fin (va_runIN (As := As.map (eb_v b0 bs)) (b := bs + b) ⟨C.1, C.2.1, C.2.2.1, C.2.2.2.1, hts⟩ (T l D cs b0 bs) ⟨va_cnB np hts (eb_good hok) hw0 rfl rfl (hP.2.1.2.2.2 _ hlk) (hts _ hok.2.1) hok.2.2.1 hrm, hy1, hts _ hin⟩ hpre rfl (by simpa using hn) hL.1 (by rw [hs]; simp [eb_v]) (lv_room (eb_room hst)) hd ⟨by omega, by omega⟩)
end EBC
end
section
theorem eb_q {A : Nat → Prop} {cs : Nat → ClassId} {b0 bs n q : Nat} {h : eb_H} {e : va_E} {D : va_G} {H1 : Heap} {hi : Nat} (hA : ∀ x, A x → bs ≤ x) (hD : va_D A (eb_w cs b0 bs n h ++ [(q, e)])) (hP : va_P D vwCl (eb_w cs b0 bs n h ++ [(q, e)]) H1) (hu : H1.size ≤ hi) (hh : hi ≤ bs + n + 1) : q = bs + n := by
  have hlen : (eb_w cs b0 bs n h).length = n := by simp [eb_w]
  have hlast : (eb_w cs b0 bs n h ++ [(q, e)])[n]? = some (q, e) := by
    rw [List.getElem?_append_right (by omega), hlen, Nat.sub_self]; rfl
  have h1 : q < H1.size := (hP n _ hlast).lt
  have h2 : bs ≤ q := hA _ (hD.2 n _ hlast)
  rcases Nat.lt_or_ge q (bs + n) with hq | hq
  · have hk : q - bs < n := by omega
    have h3 : (eb_w cs b0 bs n h ++ [(q, e)])[q - bs]? = some (bs + (q - bs), eb_e cs b0 bs (h (q - bs))) := by
      rw [List.getElem?_append_left (by omega), eb_w_at hk]
    have := hD.1 (q - bs) n _ _ h3 hlast (by simp only; omega)
    omega
  · omega
theorem eb_P.push {D : va_G} {cs : Nat → ClassId} {b0 bs : Nat} {s : State} {n c sl N : Nat} {h : eb_H} {H H1 : Heap} {locs : List Loc} {e : va_E} (hP : eb_P D cs b0 bs s (n, c, sl) h H locs)
    (h1 : va_P D vwCl (eb_w cs b0 bs n h ++ [(bs + n, eb_e cs b0 bs e)]) H1) (h2 : va_S (fun q => bs ≤ q) s.heap H1 locs) : eb_P D cs b0 bs s (n + 1, c + 1, sl + N) (eb_up h n e) H1 locs := by
  rw [eb_w_push] at h1
  have hz := hP.2.2.2.1.1
  simp only at hz
  refine ⟨h1, hP.2.1, h2, ⟨by simp only; omega, hP.2.2.2.1.2⟩, fun k hk => ?_⟩
  have hk' : n + 1 ≤ k := hk
  rw [eb_up, if_neg (by omega)]
  exact hP.2.2.2.2 k (show n ≤ k by omega)
def eb_nw_at (M : eb_M) (pc pc' ci : Nat) (fs : List Value) (N : Nat) : Prop := ∃ (idx : Nat) (q : vw_C), decode (eb_code M) pc = .ok (.new idx, 3) ∧ pc + 3 = pc' ∧ vwCl[ci]? = some q ∧ q.2.2 = N ∧ Cond.classLink (eb_y M).cls idx q.1 ∈ eb_ts ∧ Cond.instantiable q.1 q.2.2 ∈ eb_ts ∧ Cond.initialized q.1 ∈ eb_ts ∧ (∀ j, j < q.2.2 → (parseFieldDescriptor (q.2.1 j).2.2.1).map defaultValue = some (vp_V fs j))
section EBN
variable {M : eb_M} {E : Nat → Nat → State → Prop} {pc pc' : Nat} {ls st stk : List Value} {n c s : Nat} {h : eb_H} {Q : Nat → List Value → List Value → eb_Z → eb_H → Prop}
theorem V_new {ci N : Nat} {fs : List Value} (hd : eb_nw_at M pc pc' ci fs N) (hfs : ∀ b0 bs, fs.map (eb_v b0 bs) = fs) (hc : c + 1 ≤ eb_mc M ∧ s + N ≤ eb_ms M) (k : eb_V M E pc' ls (.ref n :: st) (n + 1, c + 1, s + N) (eb_up h n (.inr (ci, fs))) Q) : eb_V M E pc ls st (n, c, s) h Q := by
  obtain ⟨idx, q, hd, rfl, hq, rfl, hcl, hins, hini, hdf⟩ := hd
  obtain ⟨hc1, ty0, hc2, hc3⟩ := eb_cls hq
  intro l D cs b0 bs p e R s' m args below meth c' Zf C hE hqq H locs l' hP hL
  have hts := C.2.2.2.2.1
  have hC := C.2.2.2.2.2.2.1
  refine va_new (C := q.1) (T := q.2.1) (N := q.2.2) (fs := fs) C.1 C.2.1 hts (eb_cls_in hq) ty0 hc2 C.2.2.2.1 (hts _ hcl) (hts _ hins) (hts _ hini) hP.2.1.1 hP.1 eb_w_D hP.2.2.1 (fun x hx => Nat.le_trans hP.2.2.2.1.2 hx) hq (fun j hj => ?_) (by simp only; omega) (by simp only; omega) hd (fun a H1 h1 h2 h3 => ?_)
  · have e1 := hdf j hj
    rw [hc2 j hj] at e1
    exact Option.some.inj e1
  · refine eb_sized (fun hsz => ?_)
    have hz := hP.2.2.2.1.1
    simp only at hz hsz
    have ha : a = bs + n := eb_q (fun x hx => hx) h2 h1 hsz (by omega)
    subst ha
    have e1 : (Sum.inr (ci, fs) : va_E) = eb_e cs b0 bs (.inr (ci, fs)) := by simp [eb_e, hfs b0 bs]
    rw [e1] at h1
    exact k l D cs b0 bs p e R s' m args below meth c' Zf C hE hqq H1 locs l' (hP.push h1 h3) hL
theorem V_newi {i : Int} {N : Nat} (hd : eb_at M pc pc' (.newarray .int) 2) (hw : Cond.arrayClass .int ∈ eb_ts) (hi : i = (N : Int)) (hN : N ≤ 100000) (hc : c + 1 ≤ eb_mc M ∧ s + N ≤ eb_ms M) (k : eb_V M E pc' ls (.ref n :: st) (n + 1, c + 1, s + N) (eb_up h n (eb_ia N (fun _ => 0))) Q) : eb_V M E pc ls (.int (eb_I i) :: st) (n, c, s) h Q := by
  obtain ⟨hd, rfl⟩ := hd
  subst hi
  intro l D cs b0 bs p e R s' m args below meth c' Zf C hE hqq H locs l' hP hL
  have hts := C.2.2.2.2.1
  have hC := C.2.2.2.2.2.2.1
  refine va_newa (atype := .int) (ty := .int) (a0 := (N, .inl (fun _ => 0))) C.1 C.2.1 (hts _ hw) rfl hP.2.1.1 hP.1 eb_w_D hP.2.2.1 (fun x hx => Nat.le_trans hP.2.2.2.1.2 hx) (fun cA => rfl) (by rw [show (0 : Int32) = eb_I 0 from rfl, eb_I_lt (by omega) (by omega)]; omega) (N' := N) (by rw [eb_I_nat (by omega)]; simp) (by show N * 4 ≤ _; omega) (by simp only; omega) (by simp only; omega) hd (fun a cA H1 hK1 h1 h2 h3 => ?_)
  refine eb_sized (fun hsz => ?_)
  have hz := hP.2.2.2.1.1
  simp only at hz hsz
  have hcA : cA = cs 0 := by
    have e1 : va_RA s' cA .int := (hK1.2 5 (cA, .int) rfl).2
    have e2 : va_RA s' (cs 0) .int := (hK1.2 0 (cs 0, .int) rfl).2
    exact Option.some.inj (e1.symm.trans e2)
  subst hcA
  have ha : a = bs + n := eb_q (fun x hx => hx) h2 h1 hsz (by omega)
  subst ha
  exact k l D cs b0 bs p e R s' m args below meth c' Zf C hE hqq H1 locs l' (hP.push (e := eb_ia N (fun _ => 0)) h1 h3) hL
theorem V_newl {i : Int} {N : Nat} (hd : eb_at M pc pc' (.newarray .long) 2) (hw : Cond.arrayClass .long ∈ eb_ts) (hi : i = (N : Int)) (hN : N ≤ 100000) (hc : c + 1 ≤ eb_mc M ∧ s + N ≤ eb_ms M) (k : eb_V M E pc' ls (.ref n :: st) (n + 1, c + 1, s + N) (eb_up h n (eb_la N (fun _ => 0))) Q) : eb_V M E pc ls (.int (eb_I i) :: st) (n, c, s) h Q := by
  obtain ⟨hd, rfl⟩ := hd
  subst hi
  intro l D cs b0 bs p e R s' m args below meth c' Zf C hE hqq H locs l' hP hL
  have hts := C.2.2.2.2.1
  have hC := C.2.2.2.2.2.2.1
  refine va_newa (atype := .long) (ty := .long) (a0 := (N, .inr (.inl (fun _ => 0)))) C.1 C.2.1 (hts _ hw) rfl hP.2.1.1 hP.1 eb_w_D hP.2.2.1 (fun x hx => Nat.le_trans hP.2.2.2.1.2 hx) (fun cA => rfl) (by rw [show (0 : Int32) = eb_I 0 from rfl, eb_I_lt (by omega) (by omega)]; omega) (N' := N) (by rw [eb_I_nat (by omega)]; simp) (by show N * 8 ≤ _; omega) (by simp only; omega) (by simp only; omega) hd (fun a cA H1 hK1 h1 h2 h3 => ?_)
  refine eb_sized (fun hsz => ?_)
  have hz := hP.2.2.2.1.1
  simp only at hz hsz
  have hcA : cA = cs 1 := by
    have e1 : va_RA s' cA .long := (hK1.2 5 (cA, .long) rfl).2
    have e2 : va_RA s' (cs 1) .long := (hK1.2 1 (cs 1, .long) rfl).2
    exact Option.some.inj (e1.symm.trans e2)
  subst hcA
  have ha : a = bs + n := eb_q (fun x hx => hx) h2 h1 hsz (by omega)
  subst ha
  exact k l D cs b0 bs p e R s' m args below meth c' Zf C hE hqq H1 locs l' (hP.push (e := eb_la N (fun _ => 0)) h1 h3) hL
theorem V_newz {i : Int} {N : Nat} (hd : eb_at M pc pc' (.newarray .boolean) 2) (hw : Cond.arrayClass .boolean ∈ eb_ts) (hi : i = (N : Int)) (hN : N ≤ 100000) (hc : c + 1 ≤ eb_mc M ∧ s + N ≤ eb_ms M) (k : eb_V M E pc' ls (.ref n :: st) (n + 1, c + 1, s + N) (eb_up h n (eb_za N (fun _ => 0))) Q) : eb_V M E pc ls (.int (eb_I i) :: st) (n, c, s) h Q := by
  obtain ⟨hd, rfl⟩ := hd
  subst hi
  intro l D cs b0 bs p e R s' m args below meth c' Zf C hE hqq H locs l' hP hL
  have hts := C.2.2.2.2.1
  have hC := C.2.2.2.2.2.2.1
  refine va_newa (atype := .boolean) (ty := .boolean) (a0 := (N, .inl (fun _ => 0))) C.1 C.2.1 (hts _ hw) rfl hP.2.1.1 hP.1 eb_w_D hP.2.2.1 (fun x hx => Nat.le_trans hP.2.2.2.1.2 hx) (fun cA => rfl) (by rw [show (0 : Int32) = eb_I 0 from rfl, eb_I_lt (by omega) (by omega)]; omega) (N' := N) (by rw [eb_I_nat (by omega)]; simp) (by show N * 1 ≤ _; omega) (by simp only; omega) (by simp only; omega) hd (fun a cA H1 hK1 h1 h2 h3 => ?_)
  refine eb_sized (fun hsz => ?_)
  have hz := hP.2.2.2.1.1
  simp only at hz hsz
  have hcA : cA = cs 2 := by
    have e1 : va_RA s' cA .boolean := (hK1.2 5 (cA, .boolean) rfl).2
    have e2 : va_RA s' (cs 2) .boolean := (hK1.2 2 (cs 2, .boolean) rfl).2
    exact Option.some.inj (e1.symm.trans e2)
  subst hcA
  have ha : a = bs + n := eb_q (fun x hx => hx) h2 h1 hsz (by omega)
  subst ha
  exact k l D cs b0 bs p e R s' m args below meth c' Zf C hE hqq H1 locs l' (hP.push (e := eb_za N (fun _ => 0)) h1 h3) hL
theorem V_newq {i : Int} {N t idx : Nat} {C0 : String} (hd : eb_at M pc pc' (.anewarray idx) 3) (ht : (t = 3 ∧ C0 = RX7) ∨ (t = 4 ∧ C0 = RX2)) (hw : Cond.classLink (eb_y M).cls idx C0 ∈ eb_ts) (hi : i = (N : Int)) (hN : N ≤ 100000) (hc : c + 1 ≤ eb_mc M ∧ s + N ≤ eb_ms M) (k : eb_V M E pc' ls (.ref n :: st) (n + 1, c + 1, s + N) (eb_up h n (eb_qa t N (fun _ => none))) Q) : eb_V M E pc ls (.int (eb_I i) :: st) (n, c, s) h Q := by
  obtain ⟨hd, rfl⟩ := hd
  subst hi
  intro l D cs b0 bs p e R s' m args below meth c' Zf C hE hqq H locs l' hP hL
  have hts := C.2.2.2.2.1
  have hC := C.2.2.2.2.2.2.1
  have hAO : va_AO C0 s' := by
    rcases ht with ⟨-, rfl⟩ | ⟨-, rfl⟩
    · exact hP.2.1.2.1
    · exact hP.2.1.2.2.1
  refine va_newq (C := C0) C.1 C.2.1 C.2.2.2.1 (hts _ hw) hAO hP.2.1.1 hP.1 eb_w_D hP.2.2.1 (fun x hx => Nat.le_trans hP.2.2.2.1.2 hx) (by rw [show (0 : Int32) = eb_I 0 from rfl, eb_I_lt (by omega) (by omega)]; omega) (N' := N) (by rw [eb_I_nat (by omega)]; simp) (by omega) (by simp only; omega) (by simp only; omega) hd (fun a cA H1 hK1 h1 h2 h3 => ?_)
  refine eb_sized (fun hsz => ?_)
  have hz := hP.2.2.2.1.1
  simp only at hz hsz
  have hcA : cA = cs t := by
    obtain ⟨_, _, _, _, _, e1⟩ := (hK1.2 5 (cA, .object C0) rfl).2
    rcases ht with ⟨rfl, rfl⟩ | ⟨rfl, rfl⟩
    · obtain ⟨_, _, _, _, _, e2⟩ := (hK1.2 3 (cs 3, .object RX7) rfl).2
      exact Option.some.inj (e1.symm.trans e2)
    · obtain ⟨_, _, _, _, _, e2⟩ := (hK1.2 4 (cs 4, .object RX2) rfl).2
      exact Option.some.inj (e1.symm.trans e2)
  subst hcA
  have ha : a = bs + n := eb_q (fun x hx => hx) h2 h1 hsz (by omega)
  subst ha
  exact k l D cs b0 bs p e R s' m args below meth c' Zf C hE hqq H1 locs l' (hP.push (e := eb_qa t N (fun _ => none)) h1 h3) hL
theorem V_oinit {idx b : Nat} {z : eb_Z} (hd : eb_at M pc pc' (.invokespecial idx) 3) (h1 : Cond.methodLink (eb_y M).cls idx objectInit ∈ eb_ts) (h2 : Cond.instanceMethod objectInit ∈ eb_ts) (h3 : Cond.code objectInit ⟨#[0xb1]⟩ 1 none ∈ eb_ts) (hlv : 1 ≤ eb_lv M) (hst : (st.map Value.category).sum ≤ 8) (k : eb_V M E pc' ls st z h Q) : eb_V M E pc ls (.ref b :: st) z h Q := by
  obtain ⟨hd, rfl⟩ := hd
  refine eb_V.go (fun l D cs b0 bs p e R s m args below meth c Zf C hE H locs l' hP hL kk => ?_) k
  have hts := C.2.2.2.2.1
  have hR := C.2.2.2.2.2.1
  refine W.objInit C.1 C.2.1 C.2.2.2.1 (hts _ h1) (hts _ h2) (hts _ h3) rfl (by rw [C.2.2.1]; exact hL.1) rfl hd (by omega) ?_ ?_
  · have := eb_room (b0 := b0) (bs := bs) hst
    show 2 * 0 + _ + 12 ≤ R.locals
    omega
  · exact kk H locs l' hP hL
theorem V_acopy {idx a0 a n0 n1 : Nat} {f g : Nat → Int} {sp dp nn : Int} {z : eb_Z} (hd : eb_at M pc pc' (.invokestatic idx) 3) (h1 : Cond.methodLink (eb_y M).cls idx arraycopyName ∈ eb_ts) (h2 : Cond.native arraycopyName ∈ eb_ts) (h3 : Cond.static arraycopyName ∈ eb_ts) (h4 : Cond.initialized "java/lang/System" ∈ eb_ts) (hlv : 1 ≤ eb_lv M) (hst : (st.map Value.category).sum ≤ 8)
    (he0 : h a0 = eb_la n0 f) (he1 : h a = eb_la n1 g) (hr : n0 ≤ 100000 ∧ n1 ≤ 100000 ∧ 0 ≤ sp ∧ 0 ≤ dp ∧ 0 ≤ nn ∧ sp + nn ≤ n0 ∧ dp + nn ≤ n1)
    (k : eb_V M E pc' ls st z (eb_up h a (eb_la n1 (va_cpy f g sp.toNat dp.toNat nn.toNat))) Q) : eb_V M E pc ls (.int (eb_I nn) :: .int (eb_I dp) :: .ref a :: .int (eb_I sp) :: .ref a0 :: st) z h Q := by
  obtain ⟨hd, rfl⟩ := hd
  refine eb_V.go (fun l D cs b0 bs p e R s m args below meth c Zf C hE H locs l' hP hL kk => ?_) k
  have hts := C.2.2.2.2.1
  have hR := C.2.2.2.2.2.1
  have hn : ∀ x : Int, 0 ≤ x → x ≤ 200000 → ¬ eb_I x < 0 := fun x h0 h9 => by rw [show (0 : Int32) = eb_I 0 from rfl, eb_I_lt (by omega) (by omega)]; omega
  have hnat : nativeFrameWords "java/lang/System" "arraycopy" 5 ≤ 17 := by decide +kernel
  refine va_copyl (ty := .long) C.1 C.2.1 (C.2.2.1.trans hL.1.symm) C.2.2.2.1 (hts _ h1) (hts _ h2) (hts _ h3) (hts _ h4) hP.2.1.1 hP.1 eb_w_D hP.2.2.1 a0 a 1 1 (hP.w he0 (by intro e; cases e)) (hP.w he1 (by intro e; cases e)) rfl rfl rfl (hn sp (by omega) (by omega)) (hn dp (by omega) (by omega)) (hn nn (by omega) (by omega)) (by rw [eb_I_nat (by omega), eb_I_nat (by omega)]; omega) (by rw [eb_I_nat (by omega), eb_I_nat (by omega)]; omega) (fun i hi => rfl) (by omega) ?_ hd (fun H1 locs1 g1 g2 g3 => kk H1 locs1 l' ?_ hL)
  · have := eb_room (b0 := b0) (bs := bs) hst
    omega
  · rw [eb_I_nat (by omega), eb_I_nat (by omega), eb_I_nat (by omega)] at g1
    refine hP.up he1 (by intro e; cases e) (e := eb_la n1 (va_cpy f g sp.toNat dp.toNat nn.toNat)) ?_ g3
    have : (fun j => eb_J (va_cpy f g sp.toNat dp.toNat nn.toNat j)) = va_cpy (fun j => eb_J (f j)) (fun j => eb_J (g j)) sp.toNat dp.toNat nn.toNat := by funext j; simp only [va_cpy]; split <;> rfl
    show va_P D vwCl ((eb_w cs b0 bs z.1 h).set a (bs + a, .inl (cs 1, n1, .inr (.inl (fun j => eb_J (va_cpy f g sp.toNat dp.toNat nn.toNat j)))))) H1
    rw [this]
    exact g1
end EBN
end
