-- ===== PART A: goes FIRST, ahead of the names: the tables' words, and 'selects' of the private methods out of them =====
/-- a private method of a class that the tables say can be made, by its rows of tables_1 -/
def lw_okq (q : MethodName × Nat) : Prop := (q.1.cls ≠ "java/lang/invoke/MethodHandle" ∧ q.1.cls ≠ "java/lang/invoke/VarHandle") ∧ Cond.instantiable q.1.cls q.2 ∈ tables_1 ∧ Cond.privateMethod q.1 ∈ tables_1 ∧ Cond.instanceMethod q.1 ∈ tables_1
theorem lw_p0 : lw_okq (⟨"TubSteps", "finding", "(I)I"⟩, 9) := ⟨⟨by decide +kernel, by decide +kernel⟩, List.mem_of_getElem? (i := 15) (by decide +kernel), List.mem_of_getElem? (i := 164) (by decide +kernel), List.mem_of_getElem? (i := 165) (by decide +kernel)⟩
theorem lw_p1 : lw_okq (⟨"TubSteps$Spa", "letWaterDown", "()V"⟩, 12) := ⟨⟨by decide +kernel, by decide +kernel⟩, List.mem_of_getElem? (i := 23) (by decide +kernel), List.mem_of_getElem? (i := 290) (by decide +kernel), List.mem_of_getElem? (i := 291) (by decide +kernel)⟩
theorem lw_p2 : lw_okq (⟨"TubSteps$Spa", "isHere", "(I)Z"⟩, 12) := ⟨⟨by decide +kernel, by decide +kernel⟩, List.mem_of_getElem? (i := 23) (by decide +kernel), List.mem_of_getElem? (i := 301) (by decide +kernel), List.mem_of_getElem? (i := 302) (by decide +kernel)⟩
theorem lw_p3 : lw_okq (⟨"TubSteps$Spa", "bathe", "(I)V"⟩, 12) := ⟨⟨by decide +kernel, by decide +kernel⟩, List.mem_of_getElem? (i := 23) (by decide +kernel), List.mem_of_getElem? (i := 305) (by decide +kernel), List.mem_of_getElem? (i := 306) (by decide +kernel)⟩
theorem lw_p4 : lw_okq (⟨"TubSteps", "hoursUntilKnown", "(III)I"⟩, 9) := ⟨⟨by decide +kernel, by decide +kernel⟩, List.mem_of_getElem? (i := 15) (by decide +kernel), List.mem_of_getElem? (i := 363) (by decide +kernel), List.mem_of_getElem? (i := 364) (by decide +kernel)⟩
theorem lw_p5 : lw_okq (⟨"TubSteps", "isLearned", "(II)Z"⟩, 9) := ⟨⟨by decide +kernel, by decide +kernel⟩, List.mem_of_getElem? (i := 15) (by decide +kernel), List.mem_of_getElem? (i := 402) (by decide +kernel), List.mem_of_getElem? (i := 403) (by decide +kernel)⟩
theorem lw_p6 : lw_okq (⟨"TubSteps", "lackOf", "(I)I"⟩, 9) := ⟨⟨by decide +kernel, by decide +kernel⟩, List.mem_of_getElem? (i := 15) (by decide +kernel), List.mem_of_getElem? (i := 419) (by decide +kernel), List.mem_of_getElem? (i := 420) (by decide +kernel)⟩
theorem lw_p7 : lw_okq (⟨"TubSteps", "comesOutAs", "(LTubSteps$Sheet;)Z"⟩, 9) := ⟨⟨by decide +kernel, by decide +kernel⟩, List.mem_of_getElem? (i := 15) (by decide +kernel), List.mem_of_getElem? (i := 430) (by decide +kernel), List.mem_of_getElem? (i := 431) (by decide +kernel)⟩
theorem lw_p8 : lw_okq (⟨"TubSteps$TextReader", "readToken", "()V"⟩, 6) := ⟨⟨by decide +kernel, by decide +kernel⟩, List.mem_of_getElem? (i := 82) (by decide +kernel), List.mem_of_getElem? (i := 481) (by decide +kernel), List.mem_of_getElem? (i := 482) (by decide +kernel)⟩
theorem lw_p9 : lw_okq (⟨"TubSteps$TextReader", "byteAt", "(I)I"⟩, 6) := ⟨⟨by decide +kernel, by decide +kernel⟩, List.mem_of_getElem? (i := 82) (by decide +kernel), List.mem_of_getElem? (i := 485) (by decide +kernel), List.mem_of_getElem? (i := 486) (by decide +kernel)⟩
theorem lw_p10 : lw_okq (⟨"TubSteps$TextReader", "readItem", "(LTubSteps$Spa;)Z"⟩, 6) := ⟨⟨by decide +kernel, by decide +kernel⟩, List.mem_of_getElem? (i := 82) (by decide +kernel), List.mem_of_getElem? (i := 495) (by decide +kernel), List.mem_of_getElem? (i := 496) (by decide +kernel)⟩
theorem lw_p11 : lw_okq (⟨"TubSteps$TextReader", "kindAtHand", "()I"⟩, 6) := ⟨⟨by decide +kernel, by decide +kernel⟩, List.mem_of_getElem? (i := 82) (by decide +kernel), List.mem_of_getElem? (i := 499) (by decide +kernel), List.mem_of_getElem? (i := 500) (by decide +kernel)⟩
theorem lw_p12 : lw_okq (⟨"TubSteps$TextReader", "isAtHand", "(Ljava/lang/String;)Z"⟩, 6) := ⟨⟨by decide +kernel, by decide +kernel⟩, List.mem_of_getElem? (i := 82) (by decide +kernel), List.mem_of_getElem? (i := 513) (by decide +kernel), List.mem_of_getElem? (i := 514) (by decide +kernel)⟩
theorem lw_p13 : lw_okq (⟨"TubSteps$TextReader", "readBather", "(LTubSteps$Spa;I)Z"⟩, 6) := ⟨⟨by decide +kernel, by decide +kernel⟩, List.mem_of_getElem? (i := 82) (by decide +kernel), List.mem_of_getElem? (i := 565) (by decide +kernel), List.mem_of_getElem? (i := 566) (by decide +kernel)⟩
theorem lw_p14 : lw_okq (⟨"TubSteps$TextReader", "passWord", "(Ljava/lang/String;)Z"⟩, 6) := ⟨⟨by decide +kernel, by decide +kernel⟩, List.mem_of_getElem? (i := 82) (by decide +kernel), List.mem_of_getElem? (i := 571) (by decide +kernel), List.mem_of_getElem? (i := 572) (by decide +kernel)⟩
theorem lw_p15 : lw_okq (⟨"TubSteps$TextReader", "passNumber", "(I)I"⟩, 6) := ⟨⟨by decide +kernel, by decide +kernel⟩, List.mem_of_getElem? (i := 82) (by decide +kernel), List.mem_of_getElem? (i := 575) (by decide +kernel), List.mem_of_getElem? (i := 576) (by decide +kernel)⟩
def lw_privs_1 : List (MethodName × Nat) := [(⟨"TubSteps", "finding", "(I)I"⟩, 9), (⟨"TubSteps$Spa", "letWaterDown", "()V"⟩, 12), (⟨"TubSteps$Spa", "isHere", "(I)Z"⟩, 12), (⟨"TubSteps$Spa", "bathe", "(I)V"⟩, 12), (⟨"TubSteps", "hoursUntilKnown", "(III)I"⟩, 9), (⟨"TubSteps", "isLearned", "(II)Z"⟩, 9), (⟨"TubSteps", "lackOf", "(I)I"⟩, 9), (⟨"TubSteps", "comesOutAs", "(LTubSteps$Sheet;)Z"⟩, 9), (⟨"TubSteps$TextReader", "readToken", "()V"⟩, 6), (⟨"TubSteps$TextReader", "byteAt", "(I)I"⟩, 6), (⟨"TubSteps$TextReader", "readItem", "(LTubSteps$Spa;)Z"⟩, 6), (⟨"TubSteps$TextReader", "kindAtHand", "()I"⟩, 6), (⟨"TubSteps$TextReader", "isAtHand", "(Ljava/lang/String;)Z"⟩, 6), (⟨"TubSteps$TextReader", "readBather", "(LTubSteps$Spa;I)Z"⟩, 6), (⟨"TubSteps$TextReader", "passWord", "(Ljava/lang/String;)Z"⟩, 6), (⟨"TubSteps$TextReader", "passNumber", "(I)I"⟩, 6)]
theorem lw_r1 : ∀ q ∈ lw_privs_1, lw_okq q := List.forall_mem_cons.mpr ⟨lw_p0, List.forall_mem_cons.mpr ⟨lw_p1, List.forall_mem_cons.mpr ⟨lw_p2, List.forall_mem_cons.mpr ⟨lw_p3, List.forall_mem_cons.mpr ⟨lw_p4, List.forall_mem_cons.mpr ⟨lw_p5, List.forall_mem_cons.mpr ⟨lw_p6, List.forall_mem_cons.mpr ⟨lw_p7, List.forall_mem_cons.mpr ⟨lw_p8, List.forall_mem_cons.mpr ⟨lw_p9, List.forall_mem_cons.mpr ⟨lw_p10, List.forall_mem_cons.mpr ⟨lw_p11, List.forall_mem_cons.mpr ⟨lw_p12, List.forall_mem_cons.mpr ⟨lw_p13, List.forall_mem_cons.mpr ⟨lw_p14, List.forall_mem_cons.mpr ⟨lw_p15, fun _ h => absurd h List.not_mem_nil⟩⟩⟩⟩⟩⟩⟩⟩⟩⟩⟩⟩⟩⟩⟩⟩
theorem lw_p16 : lw_okq (⟨"TubSteps$TextReader", "readTub", "(LTubSteps$Spa;)Z"⟩, 6) := ⟨⟨by decide +kernel, by decide +kernel⟩, List.mem_of_getElem? (i := 82) (by decide +kernel), List.mem_of_getElem? (i := 583) (by decide +kernel), List.mem_of_getElem? (i := 584) (by decide +kernel)⟩
theorem lw_p17 : lw_okq (⟨"TubStepsModel", "becomes", "(II)I"⟩, 16) := ⟨⟨by decide +kernel, by decide +kernel⟩, List.mem_of_getElem? (i := 671) (by decide +kernel), List.mem_of_getElem? (i := 737) (by decide +kernel), List.mem_of_getElem? (i := 738) (by decide +kernel)⟩
theorem lw_p18 : lw_okq (⟨"TubStepsModel", "finds", "(I)I"⟩, 16) := ⟨⟨by decide +kernel, by decide +kernel⟩, List.mem_of_getElem? (i := 671) (by decide +kernel), List.mem_of_getElem? (i := 742) (by decide +kernel), List.mem_of_getElem? (i := 743) (by decide +kernel)⟩
theorem lw_p19 : lw_okq (⟨"TubStepsModel", "there", "(I)I"⟩, 16) := ⟨⟨by decide +kernel, by decide +kernel⟩, List.mem_of_getElem? (i := 671) (by decide +kernel), List.mem_of_getElem? (i := 762) (by decide +kernel), List.mem_of_getElem? (i := 763) (by decide +kernel)⟩
theorem lw_p20 : lw_okq (⟨"TubStepsModel", "its", "(II)I"⟩, 16) := ⟨⟨by decide +kernel, by decide +kernel⟩, List.mem_of_getElem? (i := 671) (by decide +kernel), List.mem_of_getElem? (i := 766) (by decide +kernel), List.mem_of_getElem? (i := 767) (by decide +kernel)⟩
theorem lw_p21 : lw_okq (⟨"TubStepsModel", "allIn", "(I)I"⟩, 16) := ⟨⟨by decide +kernel, by decide +kernel⟩, List.mem_of_getElem? (i := 671) (by decide +kernel), List.mem_of_getElem? (i := 770) (by decide +kernel), List.mem_of_getElem? (i := 771) (by decide +kernel)⟩
theorem lw_p22 : lw_okq (⟨"TubStepsModel", "pulls", "(I)I"⟩, 16) := ⟨⟨by decide +kernel, by decide +kernel⟩, List.mem_of_getElem? (i := 671) (by decide +kernel), List.mem_of_getElem? (i := 782) (by decide +kernel), List.mem_of_getElem? (i := 783) (by decide +kernel)⟩
theorem lw_p23 : lw_okq (⟨"TubStepsModel", "comes", "(IIII)V"⟩, 16) := ⟨⟨by decide +kernel, by decide +kernel⟩, List.mem_of_getElem? (i := 671) (by decide +kernel), List.mem_of_getElem? (i := 791) (by decide +kernel), List.mem_of_getElem? (i := 792) (by decide +kernel)⟩
theorem lw_p24 : lw_okq (⟨"TubStepsModel", "isBather", "(I)Z"⟩, 16) := ⟨⟨by decide +kernel, by decide +kernel⟩, List.mem_of_getElem? (i := 671) (by decide +kernel), List.mem_of_getElem? (i := 799) (by decide +kernel), List.mem_of_getElem? (i := 800) (by decide +kernel)⟩
theorem lw_p25 : lw_okq (⟨"TubStepsModel", "adds", "(I)I"⟩, 16) := ⟨⟨by decide +kernel, by decide +kernel⟩, List.mem_of_getElem? (i := 671) (by decide +kernel), List.mem_of_getElem? (i := 804) (by decide +kernel), List.mem_of_getElem? (i := 805) (by decide +kernel)⟩
theorem lw_p26 : lw_okq (⟨"TubStepsModel", "cools", "(I)I"⟩, 16) := ⟨⟨by decide +kernel, by decide +kernel⟩, List.mem_of_getElem? (i := 671) (by decide +kernel), List.mem_of_getElem? (i := 811) (by decide +kernel), List.mem_of_getElem? (i := 812) (by decide +kernel)⟩
theorem lw_p27 : lw_okq (⟨"TubStepsModel", "nose", "(I)I"⟩, 16) := ⟨⟨by decide +kernel, by decide +kernel⟩, List.mem_of_getElem? (i := 671) (by decide +kernel), List.mem_of_getElem? (i := 815) (by decide +kernel), List.mem_of_getElem? (i := 816) (by decide +kernel)⟩
theorem lw_p28 : lw_okq (⟨"TubStepsModel", "smells", "(I)I"⟩, 16) := ⟨⟨by decide +kernel, by decide +kernel⟩, List.mem_of_getElem? (i := 671) (by decide +kernel), List.mem_of_getElem? (i := 819) (by decide +kernel), List.mem_of_getElem? (i := 820) (by decide +kernel)⟩
theorem lw_p29 : lw_okq (⟨"TubStepsModel", "swaps", "(II)I"⟩, 16) := ⟨⟨by decide +kernel, by decide +kernel⟩, List.mem_of_getElem? (i := 671) (by decide +kernel), List.mem_of_getElem? (i := 835) (by decide +kernel), List.mem_of_getElem? (i := 836) (by decide +kernel)⟩
theorem lw_p30 : lw_okq (⟨"TubStepsModel", "hours", "(I)V"⟩, 16) := ⟨⟨by decide +kernel, by decide +kernel⟩, List.mem_of_getElem? (i := 671) (by decide +kernel), List.mem_of_getElem? (i := 846) (by decide +kernel), List.mem_of_getElem? (i := 847) (by decide +kernel)⟩
theorem lw_p31 : lw_okq (⟨"TubStepsModel", "hourBut", "(I)J"⟩, 16) := ⟨⟨by decide +kernel, by decide +kernel⟩, List.mem_of_getElem? (i := 671) (by decide +kernel), List.mem_of_getElem? (i := 850) (by decide +kernel), List.mem_of_getElem? (i := 851) (by decide +kernel)⟩
def lw_privs_2 : List (MethodName × Nat) := [(⟨"TubSteps$TextReader", "readTub", "(LTubSteps$Spa;)Z"⟩, 6), (⟨"TubStepsModel", "becomes", "(II)I"⟩, 16), (⟨"TubStepsModel", "finds", "(I)I"⟩, 16), (⟨"TubStepsModel", "there", "(I)I"⟩, 16), (⟨"TubStepsModel", "its", "(II)I"⟩, 16), (⟨"TubStepsModel", "allIn", "(I)I"⟩, 16), (⟨"TubStepsModel", "pulls", "(I)I"⟩, 16), (⟨"TubStepsModel", "comes", "(IIII)V"⟩, 16), (⟨"TubStepsModel", "isBather", "(I)Z"⟩, 16), (⟨"TubStepsModel", "adds", "(I)I"⟩, 16), (⟨"TubStepsModel", "cools", "(I)I"⟩, 16), (⟨"TubStepsModel", "nose", "(I)I"⟩, 16), (⟨"TubStepsModel", "smells", "(I)I"⟩, 16), (⟨"TubStepsModel", "swaps", "(II)I"⟩, 16), (⟨"TubStepsModel", "hours", "(I)V"⟩, 16), (⟨"TubStepsModel", "hourBut", "(I)J"⟩, 16)]
theorem lw_r2 : ∀ q ∈ lw_privs_2, lw_okq q := List.forall_mem_cons.mpr ⟨lw_p16, List.forall_mem_cons.mpr ⟨lw_p17, List.forall_mem_cons.mpr ⟨lw_p18, List.forall_mem_cons.mpr ⟨lw_p19, List.forall_mem_cons.mpr ⟨lw_p20, List.forall_mem_cons.mpr ⟨lw_p21, List.forall_mem_cons.mpr ⟨lw_p22, List.forall_mem_cons.mpr ⟨lw_p23, List.forall_mem_cons.mpr ⟨lw_p24, List.forall_mem_cons.mpr ⟨lw_p25, List.forall_mem_cons.mpr ⟨lw_p26, List.forall_mem_cons.mpr ⟨lw_p27, List.forall_mem_cons.mpr ⟨lw_p28, List.forall_mem_cons.mpr ⟨lw_p29, List.forall_mem_cons.mpr ⟨lw_p30, List.forall_mem_cons.mpr ⟨lw_p31, fun _ h => absurd h List.not_mem_nil⟩⟩⟩⟩⟩⟩⟩⟩⟩⟩⟩⟩⟩⟩⟩⟩
theorem lw_p32 : lw_okq (⟨"TubStepsModel", "flows", "()V"⟩, 16) := ⟨⟨by decide +kernel, by decide +kernel⟩, List.mem_of_getElem? (i := 671) (by decide +kernel), List.mem_of_getElem? (i := 854) (by decide +kernel), List.mem_of_getElem? (i := 855) (by decide +kernel)⟩
theorem lw_p33 : lw_okq (⟨"TubStepsModel", "sumOf", "(II)I"⟩, 16) := ⟨⟨by decide +kernel, by decide +kernel⟩, List.mem_of_getElem? (i := 671) (by decide +kernel), List.mem_of_getElem? (i := 862) (by decide +kernel), List.mem_of_getElem? (i := 863) (by decide +kernel)⟩
theorem lw_p34 : lw_okq (⟨"TubStepsModel", "coldTubs", "()I"⟩, 16) := ⟨⟨by decide +kernel, by decide +kernel⟩, List.mem_of_getElem? (i := 671) (by decide +kernel), List.mem_of_getElem? (i := 866) (by decide +kernel), List.mem_of_getElem? (i := 867) (by decide +kernel)⟩
theorem lw_p35 : lw_okq (⟨"TubStepsModel", "knowing", "()I"⟩, 16) := ⟨⟨by decide +kernel, by decide +kernel⟩, List.mem_of_getElem? (i := 671) (by decide +kernel), List.mem_of_getElem? (i := 870) (by decide +kernel), List.mem_of_getElem? (i := 871) (by decide +kernel)⟩
theorem lw_p36 : lw_okq (⟨"TubStepsModel", "unknown", "()I"⟩, 16) := ⟨⟨by decide +kernel, by decide +kernel⟩, List.mem_of_getElem? (i := 671) (by decide +kernel), List.mem_of_getElem? (i := 874) (by decide +kernel), List.mem_of_getElem? (i := 875) (by decide +kernel)⟩
theorem lw_p37 : lw_okq (⟨"TubStepsModel", "knownIn", "(II)I"⟩, 16) := ⟨⟨by decide +kernel, by decide +kernel⟩, List.mem_of_getElem? (i := 671) (by decide +kernel), List.mem_of_getElem? (i := 891) (by decide +kernel), List.mem_of_getElem? (i := 892) (by decide +kernel)⟩
theorem lw_p38 : lw_okq (⟨"TubStepsModel", "soonest", "(II)I"⟩, 16) := ⟨⟨by decide +kernel, by decide +kernel⟩, List.mem_of_getElem? (i := 671) (by decide +kernel), List.mem_of_getElem? (i := 899) (by decide +kernel), List.mem_of_getElem? (i := 900) (by decide +kernel)⟩
theorem lw_p39 : lw_okq (⟨"TubStepsModel", "orNone", "(I)I"⟩, 16) := ⟨⟨by decide +kernel, by decide +kernel⟩, List.mem_of_getElem? (i := 671) (by decide +kernel), List.mem_of_getElem? (i := 903) (by decide +kernel), List.mem_of_getElem? (i := 904) (by decide +kernel)⟩
theorem lw_p40 : lw_okq (⟨"TubStepsModel", "coldest", "()I"⟩, 16) := ⟨⟨by decide +kernel, by decide +kernel⟩, List.mem_of_getElem? (i := 671) (by decide +kernel), List.mem_of_getElem? (i := 941) (by decide +kernel), List.mem_of_getElem? (i := 942) (by decide +kernel)⟩
theorem lw_p41 : lw_okq (⟨"TubStepsModel", "isHidden", "(III)Z"⟩, 16) := ⟨⟨by decide +kernel, by decide +kernel⟩, List.mem_of_getElem? (i := 671) (by decide +kernel), List.mem_of_getElem? (i := 950) (by decide +kernel), List.mem_of_getElem? (i := 951) (by decide +kernel)⟩
theorem lw_p42 : lw_okq (⟨"TubStepsModel", "wantsFor", "(II)I"⟩, 16) := ⟨⟨by decide +kernel, by decide +kernel⟩, List.mem_of_getElem? (i := 671) (by decide +kernel), List.mem_of_getElem? (i := 966) (by decide +kernel), List.mem_of_getElem? (i := 967) (by decide +kernel)⟩
theorem lw_p43 : lw_okq (⟨"TubStepsModel", "wants", "(I)I"⟩, 16) := ⟨⟨by decide +kernel, by decide +kernel⟩, List.mem_of_getElem? (i := 671) (by decide +kernel), List.mem_of_getElem? (i := 970) (by decide +kernel), List.mem_of_getElem? (i := 971) (by decide +kernel)⟩
theorem lw_p44 : lw_okq (⟨"TubStepsModel", "couldBe", "(III)I"⟩, 16) := ⟨⟨by decide +kernel, by decide +kernel⟩, List.mem_of_getElem? (i := 671) (by decide +kernel), List.mem_of_getElem? (i := 978) (by decide +kernel), List.mem_of_getElem? (i := 979) (by decide +kernel)⟩
theorem lw_p45 : lw_okq (⟨"TubStepsModel", "isTold", "(I)Z"⟩, 16) := ⟨⟨by decide +kernel, by decide +kernel⟩, List.mem_of_getElem? (i := 671) (by decide +kernel), List.mem_of_getElem? (i := 982) (by decide +kernel), List.mem_of_getElem? (i := 983) (by decide +kernel)⟩
theorem lw_p46 : lw_okq (⟨"TubStepsModel", "nextToken", "()V"⟩, 16) := ⟨⟨by decide +kernel, by decide +kernel⟩, List.mem_of_getElem? (i := 671) (by decide +kernel), List.mem_of_getElem? (i := 1017) (by decide +kernel), List.mem_of_getElem? (i := 1018) (by decide +kernel)⟩
theorem lw_p47 : lw_okq (⟨"TubStepsModel", "byteAt", "(I)I"⟩, 16) := ⟨⟨by decide +kernel, by decide +kernel⟩, List.mem_of_getElem? (i := 671) (by decide +kernel), List.mem_of_getElem? (i := 1021) (by decide +kernel), List.mem_of_getElem? (i := 1022) (by decide +kernel)⟩
def lw_privs_3 : List (MethodName × Nat) := [(⟨"TubStepsModel", "flows", "()V"⟩, 16), (⟨"TubStepsModel", "sumOf", "(II)I"⟩, 16), (⟨"TubStepsModel", "coldTubs", "()I"⟩, 16), (⟨"TubStepsModel", "knowing", "()I"⟩, 16), (⟨"TubStepsModel", "unknown", "()I"⟩, 16), (⟨"TubStepsModel", "knownIn", "(II)I"⟩, 16), (⟨"TubStepsModel", "soonest", "(II)I"⟩, 16), (⟨"TubStepsModel", "orNone", "(I)I"⟩, 16), (⟨"TubStepsModel", "coldest", "()I"⟩, 16), (⟨"TubStepsModel", "isHidden", "(III)Z"⟩, 16), (⟨"TubStepsModel", "wantsFor", "(II)I"⟩, 16), (⟨"TubStepsModel", "wants", "(I)I"⟩, 16), (⟨"TubStepsModel", "couldBe", "(III)I"⟩, 16), (⟨"TubStepsModel", "isTold", "(I)Z"⟩, 16), (⟨"TubStepsModel", "nextToken", "()V"⟩, 16), (⟨"TubStepsModel", "byteAt", "(I)I"⟩, 16)]
theorem lw_r3 : ∀ q ∈ lw_privs_3, lw_okq q := List.forall_mem_cons.mpr ⟨lw_p32, List.forall_mem_cons.mpr ⟨lw_p33, List.forall_mem_cons.mpr ⟨lw_p34, List.forall_mem_cons.mpr ⟨lw_p35, List.forall_mem_cons.mpr ⟨lw_p36, List.forall_mem_cons.mpr ⟨lw_p37, List.forall_mem_cons.mpr ⟨lw_p38, List.forall_mem_cons.mpr ⟨lw_p39, List.forall_mem_cons.mpr ⟨lw_p40, List.forall_mem_cons.mpr ⟨lw_p41, List.forall_mem_cons.mpr ⟨lw_p42, List.forall_mem_cons.mpr ⟨lw_p43, List.forall_mem_cons.mpr ⟨lw_p44, List.forall_mem_cons.mpr ⟨lw_p45, List.forall_mem_cons.mpr ⟨lw_p46, List.forall_mem_cons.mpr ⟨lw_p47, fun _ h => absurd h List.not_mem_nil⟩⟩⟩⟩⟩⟩⟩⟩⟩⟩⟩⟩⟩⟩⟩⟩
theorem lw_p48 : lw_okq (⟨"TubStepsModel", "itemHere", "()Z"⟩, 16) := ⟨⟨by decide +kernel, by decide +kernel⟩, List.mem_of_getElem? (i := 671) (by decide +kernel), List.mem_of_getElem? (i := 1031) (by decide +kernel), List.mem_of_getElem? (i := 1032) (by decide +kernel)⟩
theorem lw_p49 : lw_okq (⟨"TubStepsModel", "kindHere", "()I"⟩, 16) := ⟨⟨by decide +kernel, by decide +kernel⟩, List.mem_of_getElem? (i := 671) (by decide +kernel), List.mem_of_getElem? (i := 1035) (by decide +kernel), List.mem_of_getElem? (i := 1036) (by decide +kernel)⟩
theorem lw_p50 : lw_okq (⟨"TubStepsModel", "isSix", "(IIIIII)Z"⟩, 16) := ⟨⟨by decide +kernel, by decide +kernel⟩, List.mem_of_getElem? (i := 671) (by decide +kernel), List.mem_of_getElem? (i := 1039) (by decide +kernel), List.mem_of_getElem? (i := 1040) (by decide +kernel)⟩
theorem lw_p51 : lw_okq (⟨"TubStepsModel", "isWord", "(I)Z"⟩, 16) := ⟨⟨by decide +kernel, by decide +kernel⟩, List.mem_of_getElem? (i := 671) (by decide +kernel), List.mem_of_getElem? (i := 1043) (by decide +kernel), List.mem_of_getElem? (i := 1044) (by decide +kernel)⟩
theorem lw_p52 : lw_okq (⟨"TubStepsModel", "has3", "(IIII)Z"⟩, 16) := ⟨⟨by decide +kernel, by decide +kernel⟩, List.mem_of_getElem? (i := 671) (by decide +kernel), List.mem_of_getElem? (i := 1047) (by decide +kernel), List.mem_of_getElem? (i := 1048) (by decide +kernel)⟩
theorem lw_p53 : lw_okq (⟨"TubStepsModel", "isFive", "(IIIII)Z"⟩, 16) := ⟨⟨by decide +kernel, by decide +kernel⟩, List.mem_of_getElem? (i := 671) (by decide +kernel), List.mem_of_getElem? (i := 1051) (by decide +kernel), List.mem_of_getElem? (i := 1052) (by decide +kernel)⟩
theorem lw_p54 : lw_okq (⟨"TubStepsModel", "batherHere", "(I)Z"⟩, 16) := ⟨⟨by decide +kernel, by decide +kernel⟩, List.mem_of_getElem? (i := 671) (by decide +kernel), List.mem_of_getElem? (i := 1055) (by decide +kernel), List.mem_of_getElem? (i := 1056) (by decide +kernel)⟩
theorem lw_p55 : lw_okq (⟨"TubStepsModel", "fails", "()Z"⟩, 16) := ⟨⟨by decide +kernel, by decide +kernel⟩, List.mem_of_getElem? (i := 671) (by decide +kernel), List.mem_of_getElem? (i := 1059) (by decide +kernel), List.mem_of_getElem? (i := 1060) (by decide +kernel)⟩
theorem lw_p56 : lw_okq (⟨"TubStepsModel", "isTwo", "(II)Z"⟩, 16) := ⟨⟨by decide +kernel, by decide +kernel⟩, List.mem_of_getElem? (i := 671) (by decide +kernel), List.mem_of_getElem? (i := 1063) (by decide +kernel), List.mem_of_getElem? (i := 1064) (by decide +kernel)⟩
theorem lw_p57 : lw_okq (⟨"TubStepsModel", "perhaps", "(ZI)Z"⟩, 16) := ⟨⟨by decide +kernel, by decide +kernel⟩, List.mem_of_getElem? (i := 671) (by decide +kernel), List.mem_of_getElem? (i := 1067) (by decide +kernel), List.mem_of_getElem? (i := 1068) (by decide +kernel)⟩
theorem lw_p58 : lw_okq (⟨"TubStepsModel", "isNumber", "(II)Z"⟩, 16) := ⟨⟨by decide +kernel, by decide +kernel⟩, List.mem_of_getElem? (i := 671) (by decide +kernel), List.mem_of_getElem? (i := 1071) (by decide +kernel), List.mem_of_getElem? (i := 1072) (by decide +kernel)⟩
theorem lw_p59 : lw_okq (⟨"TubStepsModel", "isFour", "(IIII)Z"⟩, 16) := ⟨⟨by decide +kernel, by decide +kernel⟩, List.mem_of_getElem? (i := 671) (by decide +kernel), List.mem_of_getElem? (i := 1075) (by decide +kernel), List.mem_of_getElem? (i := 1076) (by decide +kernel)⟩
theorem lw_p60 : lw_okq (⟨"TubStepsModel", "tubHere", "()Z"⟩, 16) := ⟨⟨by decide +kernel, by decide +kernel⟩, List.mem_of_getElem? (i := 671) (by decide +kernel), List.mem_of_getElem? (i := 1079) (by decide +kernel), List.mem_of_getElem? (i := 1080) (by decide +kernel)⟩
theorem lw_p61 : lw_okq (⟨"TubStepsModel", "freshHere", "()Z"⟩, 16) := ⟨⟨by decide +kernel, by decide +kernel⟩, List.mem_of_getElem? (i := 671) (by decide +kernel), List.mem_of_getElem? (i := 1083) (by decide +kernel), List.mem_of_getElem? (i := 1084) (by decide +kernel)⟩
theorem lw_p62 : lw_okq (⟨"TubStepsModel", "plugHere", "()Z"⟩, 16) := ⟨⟨by decide +kernel, by decide +kernel⟩, List.mem_of_getElem? (i := 671) (by decide +kernel), List.mem_of_getElem? (i := 1087) (by decide +kernel), List.mem_of_getElem? (i := 1088) (by decide +kernel)⟩
def lw_privs_4 : List (MethodName × Nat) := [(⟨"TubStepsModel", "itemHere", "()Z"⟩, 16), (⟨"TubStepsModel", "kindHere", "()I"⟩, 16), (⟨"TubStepsModel", "isSix", "(IIIIII)Z"⟩, 16), (⟨"TubStepsModel", "isWord", "(I)Z"⟩, 16), (⟨"TubStepsModel", "has3", "(IIII)Z"⟩, 16), (⟨"TubStepsModel", "isFive", "(IIIII)Z"⟩, 16), (⟨"TubStepsModel", "batherHere", "(I)Z"⟩, 16), (⟨"TubStepsModel", "fails", "()Z"⟩, 16), (⟨"TubStepsModel", "isTwo", "(II)Z"⟩, 16), (⟨"TubStepsModel", "perhaps", "(ZI)Z"⟩, 16), (⟨"TubStepsModel", "isNumber", "(II)Z"⟩, 16), (⟨"TubStepsModel", "isFour", "(IIII)Z"⟩, 16), (⟨"TubStepsModel", "tubHere", "()Z"⟩, 16), (⟨"TubStepsModel", "freshHere", "()Z"⟩, 16), (⟨"TubStepsModel", "plugHere", "()Z"⟩, 16)]
theorem lw_r4 : ∀ q ∈ lw_privs_4, lw_okq q := List.forall_mem_cons.mpr ⟨lw_p48, List.forall_mem_cons.mpr ⟨lw_p49, List.forall_mem_cons.mpr ⟨lw_p50, List.forall_mem_cons.mpr ⟨lw_p51, List.forall_mem_cons.mpr ⟨lw_p52, List.forall_mem_cons.mpr ⟨lw_p53, List.forall_mem_cons.mpr ⟨lw_p54, List.forall_mem_cons.mpr ⟨lw_p55, List.forall_mem_cons.mpr ⟨lw_p56, List.forall_mem_cons.mpr ⟨lw_p57, List.forall_mem_cons.mpr ⟨lw_p58, List.forall_mem_cons.mpr ⟨lw_p59, List.forall_mem_cons.mpr ⟨lw_p60, List.forall_mem_cons.mpr ⟨lw_p61, List.forall_mem_cons.mpr ⟨lw_p62, fun _ h => absurd h List.not_mem_nil⟩⟩⟩⟩⟩⟩⟩⟩⟩⟩⟩⟩⟩⟩⟩
def lw_privs : List (MethodName × Nat) := lw_privs_1 ++ (lw_privs_2 ++ (lw_privs_3 ++ (lw_privs_4)))
def lw_tbl : List Cond := k2_sels lw_privs ++ tables_1
theorem lw_privs_ok : ∀ q ∈ lw_privs, lw_okq q := by
  show ∀ q ∈ lw_privs_1 ++ (lw_privs_2 ++ (lw_privs_3 ++ (lw_privs_4))), lw_okq q
  exact List.forall_mem_append.mpr ⟨lw_r1, List.forall_mem_append.mpr ⟨lw_r2, List.forall_mem_append.mpr ⟨lw_r3, lw_r4⟩⟩⟩
def RX0 : String := "TubSteps$Kinds"
def TX0 : u_T := fun k => match k with
  | _ => ("", "", "", false)
def tyX0 : Nat → FieldType := fun k => match k with
  | _ => .int
abbrev wsX00 : List Cond := u_ws RX0 TX0 0
theorem nmX0 : ∀ a, a < 0 → ∀ b, b < 0 → a ≠ b → (TX0 a).2.1 ≠ (TX0 b).2.1 := by decide +kernel
theorem tyX0_ok : ∀ k, k < 0 → parseFieldDescriptor (TX0 k).2.2.1 = some (tyX0 k) := by decide +kernel
abbrev cX0_isKind : ByteArray := prog_2_method_2_code
def yX0_isKind : MethodName := ⟨RX0, "isKind", "(I)Z"⟩
abbrev cX0_isUnder : ByteArray := prog_2_method_3_code
def yX0_isUnder : MethodName := ⟨RX0, "isUnder", "(II)Z"⟩
abbrev cX0_adds : ByteArray := prog_2_method_4_code
def yX0_adds : MethodName := ⟨RX0, "adds", "(IIII)I"⟩
abbrev cX0_cools : ByteArray := prog_2_method_5_code
def yX0_cools : MethodName := ⟨RX0, "cools", "(I)I"⟩
abbrev cX0_nose : ByteArray := prog_2_method_6_code
def yX0_nose : MethodName := ⟨RX0, "nose", "(I)I"⟩
def RX1 : String := "TubSteps$Sheet"
def TX1 : u_T := fun k => match k with
  | 0 => ("TubSteps$Sheet", "numbers", "[I", true)
  | 1 => ("TubSteps$Sheet", "bits", "I", false)
  | _ => ("TubSteps$Sheet", "length", "I", false)
def tyX1 : Nat → FieldType := fun k => match k with
  | 0 => .array .int
  | 1 => .int
  | _ => .int
abbrev wsX10 : List Cond := u_ws RX1 TX1 3
theorem nmX1 : ∀ a, a < 3 → ∀ b, b < 3 → a ≠ b → (TX1 a).2.1 ≠ (TX1 b).2.1 := by decide +kernel
theorem tyX1_ok : ∀ k, k < 3 → parseFieldDescriptor (TX1 k).2.2.1 = some (tyX1 k) := by decide +kernel
abbrev cX1_init : ByteArray := prog_3_method_1_code
def yX1_init : MethodName := ⟨RX1, "<init>", "()V"⟩
abbrev cX1_begin : ByteArray := prog_3_method_2_code
def yX1_begin : MethodName := ⟨RX1, "begin", "(II)V"⟩
abbrev cX1_isMissing : ByteArray := prog_3_method_3_code
def yX1_isMissing : MethodName := ⟨RX1, "isMissing", "()Z"⟩
abbrev cX1_hasSpan : ByteArray := prog_3_method_4_code
def yX1_hasSpan : MethodName := ⟨RX1, "hasSpan", "(II)Z"⟩
abbrev cX1_put : ByteArray := prog_3_method_5_code
def yX1_put : MethodName := ⟨RX1, "put", "(II)V"⟩
def RX2 : String := "TubSteps$Spa"
def TX2 : u_T := fun k => match k with
  | 0 => ("TubSteps$Spa", "warmth", "[I", true)
  | 1 => ("TubSteps$Spa", "scents", "[I", true)
  | 2 => ("TubSteps$Spa", "kindOf", "[I", true)
  | 3 => ("TubSteps$Spa", "tubOf", "[I", true)
  | 4 => ("TubSteps$Spa", "scentOf", "[I", true)
  | 5 => ("TubSteps$Spa", "known", "[I", true)
  | 6 => ("TubSteps$Spa", "spots", "[I", true)
  | 7 => ("TubSteps$Spa", "bathers", "I", false)
  | 8 => ("TubSteps$Spa", "newWarmth", "I", false)
  | 9 => ("TubSteps$Spa", "hour", "I", false)
  | 10 => ("TubSteps$Spa", "z", "I", false)
  | _ => ("TubSteps$Spa", "gone", "I", false)
def tyX2 : Nat → FieldType := fun k => match k with
  | 0 => .array .int
  | 1 => .array .int
  | 2 => .array .int
  | 3 => .array .int
  | 4 => .array .int
  | 5 => .array .int
  | 6 => .array .int
  | 7 => .int
  | 8 => .int
  | 9 => .int
  | 10 => .int
  | _ => .int
abbrev wsX20 : List Cond := u_ws RX2 TX2 12
theorem nmX2 : ∀ a, a < 12 → ∀ b, b < 12 → a ≠ b → (TX2 a).2.1 ≠ (TX2 b).2.1 := by decide +kernel
theorem tyX2_ok : ∀ k, k < 12 → parseFieldDescriptor (TX2 k).2.2.1 = some (tyX2 k) := by decide +kernel
abbrev cX2_init : ByteArray := prog_4_method_1_code
def yX2_init : MethodName := ⟨RX2, "<init>", "()V"⟩
abbrev cX2_take : ByteArray := prog_4_method_2_code
def yX2_take : MethodName := ⟨RX2, "take", "(LTubSteps$Spa;)V"⟩
abbrev cX2_hasBather : ByteArray := prog_4_method_3_code
def yX2_hasBather : MethodName := ⟨RX2, "hasBather", "(I)Z"⟩
abbrev cX2_isFull : ByteArray := prog_4_method_4_code
def yX2_isFull : MethodName := ⟨RX2, "isFull", "()Z"⟩
abbrev cX2_addBather : ByteArray := prog_4_method_5_code
def yX2_addBather : MethodName := ⟨RX2, "addBather", "(IIII)I"⟩
abbrev cX2_rowOf : ByteArray := prog_4_method_6_code
def yX2_rowOf : MethodName := ⟨RX2, "rowOf", "(I)[I"⟩
abbrev cX2_changePlaces : ByteArray := prog_4_method_7_code
def yX2_changePlaces : MethodName := ⟨RX2, "changePlaces", "(II)V"⟩
abbrev cX2_scentIn : ByteArray := prog_4_method_8_code
def yX2_scentIn : MethodName := ⟨RX2, "scentIn", "(II)I"⟩
abbrev cX2_setScent : ByteArray := prog_4_method_9_code
def yX2_setScent : MethodName := ⟨RX2, "setScent", "(III)V"⟩
abbrev cX2_scentsIn : ByteArray := prog_4_method_10_code
def yX2_scentsIn : MethodName := ⟨RX2, "scentsIn", "(I)I"⟩
abbrev cX2_pullPlug : ByteArray := prog_4_method_11_code
def yX2_pullPlug : MethodName := ⟨RX2, "pullPlug", "(I)V"⟩
abbrev cX2_nextDraw : ByteArray := prog_4_method_12_code
def yX2_nextDraw : MethodName := ⟨RX2, "nextDraw", "()I"⟩
abbrev cX2_passHours : ByteArray := prog_4_method_13_code
def yX2_passHours : MethodName := ⟨RX2, "passHours", "(I)V"⟩
abbrev cX2_passHour : ByteArray := prog_4_method_14_code
def yX2_passHour : MethodName := ⟨RX2, "passHour", "()V"⟩
abbrev cX2_stepFurther : ByteArray := prog_4_method_15_code
def yX2_stepFurther : MethodName := ⟨RX2, "stepFurther", "(I)I"⟩
abbrev cX2_letWaterDown : ByteArray := prog_4_method_16_code
def yX2_letWaterDown : MethodName := ⟨RX2, "letWaterDown", "()V"⟩
abbrev cX2_isHere : ByteArray := prog_4_method_17_code
def yX2_isHere : MethodName := ⟨RX2, "isHere", "(I)Z"⟩
abbrev cX2_bathe : ByteArray := prog_4_method_18_code
def yX2_bathe : MethodName := ⟨RX2, "bathe", "(I)V"⟩
abbrev cX2_addsOf : ByteArray := prog_4_method_19_code
def yX2_addsOf : MethodName := ⟨RX2, "addsOf", "(I)I"⟩
abbrev cX2_smelledBy : ByteArray := prog_4_method_20_code
def yX2_smelledBy : MethodName := ⟨RX2, "smelledBy", "(I)I"⟩
abbrev cX2_whoIsIn : ByteArray := prog_4_method_21_code
def yX2_whoIsIn : MethodName := ⟨RX2, "whoIsIn", "(I)I"⟩
abbrev cX2_whoKnow : ByteArray := prog_4_method_22_code
def yX2_whoKnow : MethodName := ⟨RX2, "whoKnow", "(I)I"⟩
abbrev cX2_whoKnowAll : ByteArray := prog_4_method_23_code
def yX2_whoKnowAll : MethodName := ⟨RX2, "whoKnowAll", "()I"⟩
abbrev cX2_whoAreUnknown : ByteArray := prog_4_method_24_code
def yX2_whoAreUnknown : MethodName := ⟨RX2, "whoAreUnknown", "()I"⟩
abbrev cX2_knownPairs : ByteArray := prog_4_method_25_code
def yX2_knownPairs : MethodName := ⟨RX2, "knownPairs", "()I"⟩
abbrev cX2_tubsBelow : ByteArray := prog_4_method_26_code
def yX2_tubsBelow : MethodName := ⟨RX2, "tubsBelow", "(I)I"⟩
abbrev cX2_emptyTubs : ByteArray := prog_4_method_27_code
def yX2_emptyTubs : MethodName := ⟨RX2, "emptyTubs", "()I"⟩
abbrev cX2_allWarmth : ByteArray := prog_4_method_28_code
def yX2_allWarmth : MethodName := ⟨RX2, "allWarmth", "()I"⟩
abbrev cX2_allScents : ByteArray := prog_4_method_29_code
def yX2_allScents : MethodName := ⟨RX2, "allScents", "()I"⟩
abbrev cX2_heldSpots : ByteArray := prog_4_method_30_code
def yX2_heldSpots : MethodName := ⟨RX2, "heldSpots", "()I"⟩
def RX3 : String := "TubSteps$TextReader"
def TX3 : u_T := fun k => match k with
  | 0 => ("TubSteps$TextReader", "bytes", "[B", false)
  | 1 => ("TubSteps$TextReader", "length", "I", false)
  | 2 => ("TubSteps$TextReader", "token", "I", false)
  | 3 => ("TubSteps$TextReader", "start", "I", false)
  | 4 => ("TubSteps$TextReader", "end", "I", false)
  | _ => ("TubSteps$TextReader", "value", "I", false)
def tyX3 : Nat → FieldType := fun k => match k with
  | 0 => .array .byte
  | 1 => .int
  | 2 => .int
  | 3 => .int
  | 4 => .int
  | _ => .int
abbrev wsX30 : List Cond := u_ws RX3 TX3 6
theorem nmX3 : ∀ a, a < 6 → ∀ b, b < 6 → a ≠ b → (TX3 a).2.1 ≠ (TX3 b).2.1 := by decide +kernel
theorem tyX3_ok : ∀ k, k < 6 → parseFieldDescriptor (TX3 k).2.2.1 = some (tyX3 k) := by decide +kernel
abbrev cX3_init : ByteArray := prog_5_method_1_code
def yX3_init : MethodName := ⟨RX3, "<init>", "()V"⟩
abbrev cX3_readText : ByteArray := prog_5_method_2_code
def yX3_readText : MethodName := ⟨RX3, "readText", "([BILTubSteps$Spa;)I"⟩
abbrev cX3_readItem : ByteArray := prog_5_method_3_code
def yX3_readItem : MethodName := ⟨RX3, "readItem", "(LTubSteps$Spa;)Z"⟩
abbrev cX3_readBather : ByteArray := prog_5_method_4_code
def yX3_readBather : MethodName := ⟨RX3, "readBather", "(LTubSteps$Spa;I)Z"⟩
abbrev cX3_readTub : ByteArray := prog_5_method_5_code
def yX3_readTub : MethodName := ⟨RX3, "readTub", "(LTubSteps$Spa;)Z"⟩
abbrev cX3_kindAtHand : ByteArray := prog_5_method_6_code
def yX3_kindAtHand : MethodName := ⟨RX3, "kindAtHand", "()I"⟩
abbrev cX3_kindWord : ByteArray := prog_5_method_7_code
def yX3_kindWord : MethodName := ⟨RX3, "kindWord", "(I)Ljava/lang/String;"⟩
abbrev cX3_isAtHand : ByteArray := prog_5_method_8_code
def yX3_isAtHand : MethodName := ⟨RX3, "isAtHand", "(Ljava/lang/String;)Z"⟩
abbrev cX3_passWord : ByteArray := prog_5_method_9_code
def yX3_passWord : MethodName := ⟨RX3, "passWord", "(Ljava/lang/String;)Z"⟩
abbrev cX3_passNumber : ByteArray := prog_5_method_10_code
def yX3_passNumber : MethodName := ⟨RX3, "passNumber", "(I)I"⟩
abbrev cX3_readToken : ByteArray := prog_5_method_11_code
def yX3_readToken : MethodName := ⟨RX3, "readToken", "()V"⟩
abbrev cX3_byteAt : ByteArray := prog_5_method_12_code
def yX3_byteAt : MethodName := ⟨RX3, "byteAt", "(I)I"⟩
abbrev cX3_isLetter : ByteArray := prog_5_method_13_code
def yX3_isLetter : MethodName := ⟨RX3, "isLetter", "(I)Z"⟩
abbrev cX3_isDigit : ByteArray := prog_5_method_14_code
def yX3_isDigit : MethodName := ⟨RX3, "isDigit", "(I)Z"⟩
def RX4 : String := "TubSteps"
def TX4 : u_T := fun k => match k with
  | 0 => ("TubSteps", "spa", "LTubSteps$Spa;", true)
  | 1 => ("TubSteps", "kept", "LTubSteps$Spa;", true)
  | 2 => ("TubSteps", "draft", "LTubSteps$Spa;", true)
  | 3 => ("TubSteps", "sheets", "[LTubSteps$Sheet;", true)
  | 4 => ("TubSteps", "tape", "[B", true)
  | 5 => ("TubSteps", "reader", "LTubSteps$TextReader;", true)
  | 6 => ("TubSteps", "found", "[I", true)
  | 7 => ("TubSteps", "tapeLength", "I", false)
  | _ => ("TubSteps", "hasKept", "Z", false)
def tyX4 : Nat → FieldType := fun k => match k with
  | 0 => .object "TubSteps$Spa"
  | 1 => .object "TubSteps$Spa"
  | 2 => .object "TubSteps$Spa"
  | 3 => .array (.object "TubSteps$Sheet")
  | 4 => .array .byte
  | 5 => .object "TubSteps$TextReader"
  | 6 => .array .int
  | 7 => .int
  | _ => .boolean
abbrev wsX40 : List Cond := u_ws RX4 TX4 9
theorem nmX4 : ∀ a, a < 9 → ∀ b, b < 9 → a ≠ b → (TX4 a).2.1 ≠ (TX4 b).2.1 := by decide +kernel
theorem tyX4_ok : ∀ k, k < 9 → parseFieldDescriptor (TX4 k).2.2.1 = some (tyX4 k) := by decide +kernel
abbrev cX4_init : ByteArray := prog_1_method_1_code
def yX4_init : MethodName := ⟨RX4, "<init>", "()V"⟩
abbrev cX4_warm : ByteArray := prog_1_method_2_code
def yX4_warm : MethodName := ⟨RX4, "warm", "(II)I"⟩
abbrev cX4_scent : ByteArray := prog_1_method_3_code
def yX4_scent : MethodName := ⟨RX4, "scent", "(III)I"⟩
abbrev cX4_tub : ByteArray := prog_1_method_4_code
def yX4_tub : MethodName := ⟨RX4, "tub", "(II)I"⟩
abbrev cX4_fresh : ByteArray := prog_1_method_5_code
def yX4_fresh : MethodName := ⟨RX4, "fresh", "(I)I"⟩
abbrev cX4_plug : ByteArray := prog_1_method_6_code
def yX4_plug : MethodName := ⟨RX4, "plug", "(I)I"⟩
abbrev cX4_bather : ByteArray := prog_1_method_7_code
def yX4_bather : MethodName := ⟨RX4, "bather", "(II)I"⟩
abbrev cX4_of : ByteArray := prog_1_method_8_code
def yX4_of : MethodName := ⟨RX4, "of", "(II)I"⟩
abbrev cX4_change : ByteArray := prog_1_method_9_code
def yX4_change : MethodName := ⟨RX4, "change", "(III)I"⟩
abbrev cX4_swap : ByteArray := prog_1_method_10_code
def yX4_swap : MethodName := ⟨RX4, "swap", "(II)I"⟩
abbrev cX4_go : ByteArray := prog_1_method_11_code
def yX4_go : MethodName := ⟨RX4, "go", "(I)I"⟩
abbrev cX4_now : ByteArray := prog_1_method_12_code
def yX4_now : MethodName := ⟨RX4, "now", "(I)I"⟩
abbrev cX4_ahead : ByteArray := prog_1_method_13_code
def yX4_ahead : MethodName := ⟨RX4, "ahead", "(III)I"⟩
abbrev cX4_knows : ByteArray := prog_1_method_14_code
def yX4_knows : MethodName := ⟨RX4, "knows", "(II)I"⟩
abbrev cX4_when : ByteArray := prog_1_method_15_code
def yX4_when : MethodName := ⟨RX4, "when", "(II)I"⟩
abbrev cX4_cold : ByteArray := prog_1_method_16_code
def yX4_cold : MethodName := ⟨RX4, "cold", "(II)I"⟩
abbrev cX4_left : ByteArray := prog_1_method_17_code
def yX4_left : MethodName := ⟨RX4, "left", "(II)I"⟩
abbrev cX4_needed : ByteArray := prog_1_method_18_code
def yX4_needed : MethodName := ⟨RX4, "needed", "(II)I"⟩
abbrev cX4_swapFor : ByteArray := prog_1_method_19_code
def yX4_swapFor : MethodName := ⟨RX4, "swapFor", "(II)I"⟩
abbrev cX4_seat : ByteArray := prog_1_method_20_code
def yX4_seat : MethodName := ⟨RX4, "seat", "(II)I"⟩
abbrev cX4_kindFor : ByteArray := prog_1_method_21_code
def yX4_kindFor : MethodName := ⟨RX4, "kindFor", "(II)I"⟩
abbrev cX4_freshFor : ByteArray := prog_1_method_22_code
def yX4_freshFor : MethodName := ⟨RX4, "freshFor", "(II)I"⟩
abbrev cX4_hides : ByteArray := prog_1_method_23_code
def yX4_hides : MethodName := ⟨RX4, "hides", "(IIII)I"⟩
abbrev cX4_leave : ByteArray := prog_1_method_24_code
def yX4_leave : MethodName := ⟨RX4, "leave", "(II)I"⟩
abbrev cX4_plugFor : ByteArray := prog_1_method_25_code
def yX4_plugFor : MethodName := ⟨RX4, "plugFor", "(II)I"⟩
abbrev cX4_fits : ByteArray := prog_1_method_26_code
def yX4_fits : MethodName := ⟨RX4, "fits", "(II)I"⟩
abbrev cX4_kinds : ByteArray := prog_1_method_27_code
def yX4_kinds : MethodName := ⟨RX4, "kinds", "(II)I"⟩
abbrev cX4_plugs : ByteArray := prog_1_method_28_code
def yX4_plugs : MethodName := ⟨RX4, "plugs", "(I)I"⟩
abbrev cX4_odds : ByteArray := prog_1_method_29_code
def yX4_odds : MethodName := ⟨RX4, "odds", "(II)J"⟩
abbrev cX4_seed : ByteArray := prog_1_method_30_code
def yX4_seed : MethodName := ⟨RX4, "seed", "(I)I"⟩
abbrev cX4_feed : ByteArray := prog_1_method_31_code
def yX4_feed : MethodName := ⟨RX4, "feed", "(II)I"⟩
abbrev cX4_wipe : ByteArray := prog_1_method_32_code
def yX4_wipe : MethodName := ⟨RX4, "wipe", "()I"⟩
abbrev cX4_text : ByteArray := prog_1_method_33_code
def yX4_text : MethodName := ⟨RX4, "text", "()I"⟩
abbrev cX4_hold : ByteArray := prog_1_method_34_code
def yX4_hold : MethodName := ⟨RX4, "hold", "(II)I"⟩
abbrev cX4_as : ByteArray := prog_1_method_35_code
def yX4_as : MethodName := ⟨RX4, "as", "(II)I"⟩
abbrev cX4_sheet : ByteArray := prog_1_method_36_code
def yX4_sheet : MethodName := ⟨RX4, "sheet", "(III)I"⟩
abbrev cX4_write : ByteArray := prog_1_method_37_code
def yX4_write : MethodName := ⟨RX4, "write", "(III)I"⟩
abbrev cX4_copy : ByteArray := prog_1_method_38_code
def yX4_copy : MethodName := ⟨RX4, "copy", "(IIIII)I"⟩
abbrev cX4_load : ByteArray := prog_1_method_39_code
def yX4_load : MethodName := ⟨RX4, "load", "(I)I"⟩
abbrev cX4_judge : ByteArray := prog_1_method_40_code
def yX4_judge : MethodName := ⟨RX4, "judge", "(I)I"⟩
abbrev cX4_image : ByteArray := prog_1_method_41_code
def yX4_image : MethodName := ⟨RX4, "image", "()I"⟩
abbrev cX4_undo : ByteArray := prog_1_method_42_code
def yX4_undo : MethodName := ⟨RX4, "undo", "()I"⟩
abbrev cX4_tear : ByteArray := prog_1_method_43_code
def yX4_tear : MethodName := ⟨RX4, "tear", "()I"⟩
abbrev cX4_count : ByteArray := prog_1_method_44_code
def yX4_count : MethodName := ⟨RX4, "count", "(I)I"⟩
abbrev cX4_status : ByteArray := prog_1_method_45_code
def yX4_status : MethodName := ⟨RX4, "status", "(I)I"⟩
abbrev cX4_finding : ByteArray := prog_1_method_46_code
def yX4_finding : MethodName := ⟨RX4, "finding", "(I)I"⟩
abbrev cX4_isWithin : ByteArray := prog_1_method_47_code
def yX4_isWithin : MethodName := ⟨RX4, "isWithin", "(II)Z"⟩
abbrev cX4_isTub : ByteArray := prog_1_method_48_code
def yX4_isTub : MethodName := ⟨RX4, "isTub", "(I)Z"⟩
abbrev cX4_isScent : ByteArray := prog_1_method_49_code
def yX4_isScent : MethodName := ⟨RX4, "isScent", "(I)Z"⟩
abbrev cX4_isSpot : ByteArray := prog_1_method_50_code
def yX4_isSpot : MethodName := ⟨RX4, "isSpot", "(I)Z"⟩
abbrev cX4_isSheet : ByteArray := prog_1_method_51_code
def yX4_isSheet : MethodName := ⟨RX4, "isSheet", "(I)Z"⟩
abbrev cX4_mostOf : ByteArray := prog_1_method_52_code
def yX4_mostOf : MethodName := ⟨RX4, "mostOf", "(I)I"⟩
abbrev cX4_greatestCommonPart : ByteArray := prog_1_method_53_code
def yX4_greatestCommonPart : MethodName := ⟨RX4, "greatestCommonPart", "(II)I"⟩
abbrev cX4_lackOf : ByteArray := prog_1_method_54_code
def yX4_lackOf : MethodName := ⟨RX4, "lackOf", "(I)I"⟩
abbrev cX4_hoursUntilKnown : ByteArray := prog_1_method_55_code
def yX4_hoursUntilKnown : MethodName := ⟨RX4, "hoursUntilKnown", "(III)I"⟩
abbrev cX4_isLearned : ByteArray := prog_1_method_56_code
def yX4_isLearned : MethodName := ⟨RX4, "isLearned", "(II)Z"⟩
abbrev cX4_comesOutAs : ByteArray := prog_1_method_57_code
def yX4_comesOutAs : MethodName := ⟨RX4, "comesOutAs", "(LTubSteps$Sheet;)Z"⟩
def RX5 : String := "TubStepsModel"
def TX5 : u_T := fun k => match k with
  | 0 => ("TubStepsModel", "s", "[I", true)
  | 1 => ("TubStepsModel", "kept", "[I", true)
  | 2 => ("TubStepsModel", "before", "[I", true)
  | 3 => ("TubStepsModel", "aside", "[I", true)
  | 4 => ("TubStepsModel", "isKept", "Z", false)
  | 5 => ("TubStepsModel", "findings", "[I", true)
  | 6 => ("TubStepsModel", "tape", "[I", true)
  | 7 => ("TubStepsModel", "taped", "I", false)
  | 8 => ("TubStepsModel", "bitsOf", "[I", true)
  | 9 => ("TubStepsModel", "sizes", "[I", true)
  | 10 => ("TubStepsModel", "numbers", "[I", true)
  | 11 => ("TubStepsModel", "token", "I", false)
  | 12 => ("TubStepsModel", "from", "I", false)
  | 13 => ("TubStepsModel", "to", "I", false)
  | 14 => ("TubStepsModel", "value", "I", false)
  | _ => ("TubStepsModel", "faultAt", "I", false)
def tyX5 : Nat → FieldType := fun k => match k with
  | 0 => .array .int
  | 1 => .array .int
  | 2 => .array .int
  | 3 => .array .int
  | 4 => .boolean
  | 5 => .array .int
  | 6 => .array .int
  | 7 => .int
  | 8 => .array .int
  | 9 => .array .int
  | 10 => .array .int
  | 11 => .int
  | 12 => .int
  | 13 => .int
  | 14 => .int
  | _ => .int
abbrev wsX50 : List Cond := u_ws RX5 TX5 16
theorem nmX5 : ∀ a, a < 16 → ∀ b, b < 16 → a ≠ b → (TX5 a).2.1 ≠ (TX5 b).2.1 := by decide +kernel
theorem tyX5_ok : ∀ k, k < 16 → parseFieldDescriptor (TX5 k).2.2.1 = some (tyX5 k) := by decide +kernel
abbrev cX5_init : ByteArray := prog_7_method_1_code
def yX5_init : MethodName := ⟨RX5, "<init>", "()V"⟩
abbrev cX5_isIn : ByteArray := prog_7_method_2_code
def yX5_isIn : MethodName := ⟨RX5, "isIn", "(JJJ)Z"⟩
abbrev cX5_finds : ByteArray := prog_7_method_3_code
def yX5_finds : MethodName := ⟨RX5, "finds", "(I)I"⟩
abbrev cX5_becomes : ByteArray := prog_7_method_4_code
def yX5_becomes : MethodName := ⟨RX5, "becomes", "(II)I"⟩
abbrev cX5_copyRow : ByteArray := prog_7_method_5_code
def yX5_copyRow : MethodName := ⟨RX5, "copyRow", "([I[I)V"⟩
abbrev cX5_isTub : ByteArray := prog_7_method_6_code
def yX5_isTub : MethodName := ⟨RX5, "isTub", "(I)Z"⟩
abbrev cX5_isScent : ByteArray := prog_7_method_7_code
def yX5_isScent : MethodName := ⟨RX5, "isScent", "(I)Z"⟩
abbrev cX5_isBather : ByteArray := prog_7_method_8_code
def yX5_isBather : MethodName := ⟨RX5, "isBather", "(I)Z"⟩
abbrev cX5_its : ByteArray := prog_7_method_9_code
def yX5_its : MethodName := ⟨RX5, "its", "(II)I"⟩
abbrev cX5_orNone : ByteArray := prog_7_method_10_code
def yX5_orNone : MethodName := ⟨RX5, "orNone", "(I)I"⟩
abbrev cX5_many : ByteArray := prog_7_method_11_code
def yX5_many : MethodName := ⟨RX5, "many", "(I)I"⟩
abbrev cX5_warm : ByteArray := prog_7_method_12_code
def yX5_warm : MethodName := ⟨RX5, "warm", "(II)I"⟩
abbrev cX5_placeOf : ByteArray := prog_7_method_13_code
def yX5_placeOf : MethodName := ⟨RX5, "placeOf", "(II)I"⟩
abbrev cX5_scent : ByteArray := prog_7_method_14_code
def yX5_scent : MethodName := ⟨RX5, "scent", "(III)I"⟩
abbrev cX5_allIn : ByteArray := prog_7_method_15_code
def yX5_allIn : MethodName := ⟨RX5, "allIn", "(I)I"⟩
abbrev cX5_there : ByteArray := prog_7_method_16_code
def yX5_there : MethodName := ⟨RX5, "there", "(I)I"⟩
abbrev cX5_tub : ByteArray := prog_7_method_17_code
def yX5_tub : MethodName := ⟨RX5, "tub", "(II)I"⟩
abbrev cX5_fresh : ByteArray := prog_7_method_18_code
def yX5_fresh : MethodName := ⟨RX5, "fresh", "(I)I"⟩
abbrev cX5_pulls : ByteArray := prog_7_method_19_code
def yX5_pulls : MethodName := ⟨RX5, "pulls", "(I)I"⟩
abbrev cX5_plug : ByteArray := prog_7_method_20_code
def yX5_plug : MethodName := ⟨RX5, "plug", "(I)I"⟩
abbrev cX5_comes : ByteArray := prog_7_method_21_code
def yX5_comes : MethodName := ⟨RX5, "comes", "(IIII)V"⟩
abbrev cX5_bather : ByteArray := prog_7_method_22_code
def yX5_bather : MethodName := ⟨RX5, "bather", "(II)I"⟩
abbrev cX5_adds : ByteArray := prog_7_method_23_code
def yX5_adds : MethodName := ⟨RX5, "adds", "(I)I"⟩
abbrev cX5_cools : ByteArray := prog_7_method_24_code
def yX5_cools : MethodName := ⟨RX5, "cools", "(I)I"⟩
abbrev cX5_nose : ByteArray := prog_7_method_25_code
def yX5_nose : MethodName := ⟨RX5, "nose", "(I)I"⟩
abbrev cX5_smells : ByteArray := prog_7_method_26_code
def yX5_smells : MethodName := ⟨RX5, "smells", "(I)I"⟩
abbrev cX5_of : ByteArray := prog_7_method_27_code
def yX5_of : MethodName := ⟨RX5, "of", "(II)I"⟩
abbrev cX5_greatestOf : ByteArray := prog_7_method_28_code
def yX5_greatestOf : MethodName := ⟨RX5, "greatestOf", "(I)I"⟩
abbrev cX5_change : ByteArray := prog_7_method_29_code
def yX5_change : MethodName := ⟨RX5, "change", "(III)I"⟩
abbrev cX5_swaps : ByteArray := prog_7_method_30_code
def yX5_swaps : MethodName := ⟨RX5, "swaps", "(II)I"⟩
abbrev cX5_swap : ByteArray := prog_7_method_31_code
def yX5_swap : MethodName := ⟨RX5, "swap", "(II)I"⟩
abbrev cX5_flows : ByteArray := prog_7_method_32_code
def yX5_flows : MethodName := ⟨RX5, "flows", "()V"⟩
abbrev cX5_hourBut : ByteArray := prog_7_method_33_code
def yX5_hourBut : MethodName := ⟨RX5, "hourBut", "(I)J"⟩
abbrev cX5_hours : ByteArray := prog_7_method_34_code
def yX5_hours : MethodName := ⟨RX5, "hours", "(I)V"⟩
abbrev cX5_go : ByteArray := prog_7_method_35_code
def yX5_go : MethodName := ⟨RX5, "go", "(I)I"⟩
abbrev cX5_sumOf : ByteArray := prog_7_method_36_code
def yX5_sumOf : MethodName := ⟨RX5, "sumOf", "(II)I"⟩
abbrev cX5_coldTubs : ByteArray := prog_7_method_37_code
def yX5_coldTubs : MethodName := ⟨RX5, "coldTubs", "()I"⟩
abbrev cX5_knowing : ByteArray := prog_7_method_38_code
def yX5_knowing : MethodName := ⟨RX5, "knowing", "()I"⟩
abbrev cX5_unknown : ByteArray := prog_7_method_39_code
def yX5_unknown : MethodName := ⟨RX5, "unknown", "()I"⟩
abbrev cX5_now : ByteArray := prog_7_method_40_code
def yX5_now : MethodName := ⟨RX5, "now", "(I)I"⟩
abbrev cX5_ahead : ByteArray := prog_7_method_41_code
def yX5_ahead : MethodName := ⟨RX5, "ahead", "(III)I"⟩
abbrev cX5_knownIn : ByteArray := prog_7_method_42_code
def yX5_knownIn : MethodName := ⟨RX5, "knownIn", "(II)I"⟩
abbrev cX5_knows : ByteArray := prog_7_method_43_code
def yX5_knows : MethodName := ⟨RX5, "knows", "(II)I"⟩
abbrev cX5_soonest : ByteArray := prog_7_method_44_code
def yX5_soonest : MethodName := ⟨RX5, "soonest", "(II)I"⟩
abbrev cX5_when : ByteArray := prog_7_method_45_code
def yX5_when : MethodName := ⟨RX5, "when", "(II)I"⟩
abbrev cX5_cold : ByteArray := prog_7_method_46_code
def yX5_cold : MethodName := ⟨RX5, "cold", "(II)I"⟩
abbrev cX5_leftOf : ByteArray := prog_7_method_47_code
def yX5_leftOf : MethodName := ⟨RX5, "leftOf", "(II)I"⟩
abbrev cX5_left : ByteArray := prog_7_method_48_code
def yX5_left : MethodName := ⟨RX5, "left", "(II)I"⟩
abbrev cX5_needed : ByteArray := prog_7_method_49_code
def yX5_needed : MethodName := ⟨RX5, "needed", "(II)I"⟩
abbrev cX5_swapFor : ByteArray := prog_7_method_50_code
def yX5_swapFor : MethodName := ⟨RX5, "swapFor", "(II)I"⟩
abbrev cX5_seat : ByteArray := prog_7_method_51_code
def yX5_seat : MethodName := ⟨RX5, "seat", "(II)I"⟩
abbrev cX5_kindFor : ByteArray := prog_7_method_52_code
def yX5_kindFor : MethodName := ⟨RX5, "kindFor", "(II)I"⟩
abbrev cX5_coldest : ByteArray := prog_7_method_53_code
def yX5_coldest : MethodName := ⟨RX5, "coldest", "()I"⟩
abbrev cX5_freshFor : ByteArray := prog_7_method_54_code
def yX5_freshFor : MethodName := ⟨RX5, "freshFor", "(II)I"⟩
abbrev cX5_isHidden : ByteArray := prog_7_method_55_code
def yX5_isHidden : MethodName := ⟨RX5, "isHidden", "(III)Z"⟩
abbrev cX5_hides : ByteArray := prog_7_method_56_code
def yX5_hides : MethodName := ⟨RX5, "hides", "(IIII)I"⟩
abbrev cX5_leave : ByteArray := prog_7_method_57_code
def yX5_leave : MethodName := ⟨RX5, "leave", "(II)I"⟩
abbrev cX5_plugFor : ByteArray := prog_7_method_58_code
def yX5_plugFor : MethodName := ⟨RX5, "plugFor", "(II)I"⟩
abbrev cX5_isTold : ByteArray := prog_7_method_59_code
def yX5_isTold : MethodName := ⟨RX5, "isTold", "(I)Z"⟩
abbrev cX5_couldBe : ByteArray := prog_7_method_60_code
def yX5_couldBe : MethodName := ⟨RX5, "couldBe", "(III)I"⟩
abbrev cX5_wantsFor : ByteArray := prog_7_method_61_code
def yX5_wantsFor : MethodName := ⟨RX5, "wantsFor", "(II)I"⟩
abbrev cX5_fits : ByteArray := prog_7_method_62_code
def yX5_fits : MethodName := ⟨RX5, "fits", "(II)I"⟩
abbrev cX5_kinds : ByteArray := prog_7_method_63_code
def yX5_kinds : MethodName := ⟨RX5, "kinds", "(II)I"⟩
abbrev cX5_plugs : ByteArray := prog_7_method_64_code
def yX5_plugs : MethodName := ⟨RX5, "plugs", "(I)I"⟩
abbrev cX5_odds : ByteArray := prog_7_method_65_code
def yX5_odds : MethodName := ⟨RX5, "odds", "(II)J"⟩
abbrev cX5_seed : ByteArray := prog_7_method_66_code
def yX5_seed : MethodName := ⟨RX5, "seed", "(I)I"⟩
abbrev cX5_feed : ByteArray := prog_7_method_67_code
def yX5_feed : MethodName := ⟨RX5, "feed", "(II)I"⟩
abbrev cX5_wipe : ByteArray := prog_7_method_68_code
def yX5_wipe : MethodName := ⟨RX5, "wipe", "()I"⟩
abbrev cX5_isLetter : ByteArray := prog_7_method_69_code
def yX5_isLetter : MethodName := ⟨RX5, "isLetter", "(I)Z"⟩
abbrev cX5_isDigit : ByteArray := prog_7_method_70_code
def yX5_isDigit : MethodName := ⟨RX5, "isDigit", "(I)Z"⟩
abbrev cX5_byteAt : ByteArray := prog_7_method_71_code
def yX5_byteAt : MethodName := ⟨RX5, "byteAt", "(I)I"⟩
abbrev cX5_nextToken : ByteArray := prog_7_method_72_code
def yX5_nextToken : MethodName := ⟨RX5, "nextToken", "()V"⟩
abbrev cX5_has3 : ByteArray := prog_7_method_73_code
def yX5_has3 : MethodName := ⟨RX5, "has3", "(IIII)Z"⟩
abbrev cX5_isWord : ByteArray := prog_7_method_74_code
def yX5_isWord : MethodName := ⟨RX5, "isWord", "(I)Z"⟩
abbrev cX5_fails : ByteArray := prog_7_method_75_code
def yX5_fails : MethodName := ⟨RX5, "fails", "()Z"⟩
abbrev cX5_isFour : ByteArray := prog_7_method_76_code
def yX5_isFour : MethodName := ⟨RX5, "isFour", "(IIII)Z"⟩
abbrev cX5_isFive : ByteArray := prog_7_method_77_code
def yX5_isFive : MethodName := ⟨RX5, "isFive", "(IIIII)Z"⟩
abbrev cX5_isSix : ByteArray := prog_7_method_78_code
def yX5_isSix : MethodName := ⟨RX5, "isSix", "(IIIIII)Z"⟩
abbrev cX5_isNumber : ByteArray := prog_7_method_79_code
def yX5_isNumber : MethodName := ⟨RX5, "isNumber", "(II)Z"⟩
abbrev cX5_kindHere : ByteArray := prog_7_method_80_code
def yX5_kindHere : MethodName := ⟨RX5, "kindHere", "()I"⟩
abbrev cX5_isTwo : ByteArray := prog_7_method_81_code
def yX5_isTwo : MethodName := ⟨RX5, "isTwo", "(II)Z"⟩
abbrev cX5_perhaps : ByteArray := prog_7_method_82_code
def yX5_perhaps : MethodName := ⟨RX5, "perhaps", "(ZI)Z"⟩
abbrev cX5_batherHere : ByteArray := prog_7_method_83_code
def yX5_batherHere : MethodName := ⟨RX5, "batherHere", "(I)Z"⟩
abbrev cX5_tubHere : ByteArray := prog_7_method_84_code
def yX5_tubHere : MethodName := ⟨RX5, "tubHere", "()Z"⟩
abbrev cX5_freshHere : ByteArray := prog_7_method_85_code
def yX5_freshHere : MethodName := ⟨RX5, "freshHere", "()Z"⟩
abbrev cX5_plugHere : ByteArray := prog_7_method_86_code
def yX5_plugHere : MethodName := ⟨RX5, "plugHere", "()Z"⟩
abbrev cX5_itemHere : ByteArray := prog_7_method_87_code
def yX5_itemHere : MethodName := ⟨RX5, "itemHere", "()Z"⟩
abbrev cX5_text : ByteArray := prog_7_method_88_code
def yX5_text : MethodName := ⟨RX5, "text", "()I"⟩
abbrev cX5_hold : ByteArray := prog_7_method_89_code
def yX5_hold : MethodName := ⟨RX5, "hold", "(II)I"⟩
abbrev cX5_isUnder : ByteArray := prog_7_method_90_code
def yX5_isUnder : MethodName := ⟨RX5, "isUnder", "(II)Z"⟩
abbrev cX5_as : ByteArray := prog_7_method_91_code
def yX5_as : MethodName := ⟨RX5, "as", "(II)I"⟩
abbrev cX5_isSheet : ByteArray := prog_7_method_92_code
def yX5_isSheet : MethodName := ⟨RX5, "isSheet", "(I)Z"⟩
abbrev cX5_sheet : ByteArray := prog_7_method_93_code
def yX5_sheet : MethodName := ⟨RX5, "sheet", "(III)I"⟩
abbrev cX5_write : ByteArray := prog_7_method_94_code
def yX5_write : MethodName := ⟨RX5, "write", "(III)I"⟩
abbrev cX5_copy : ByteArray := prog_7_method_95_code
def yX5_copy : MethodName := ⟨RX5, "copy", "(IIIII)I"⟩
abbrev cX5_wants : ByteArray := prog_7_method_96_code
def yX5_wants : MethodName := ⟨RX5, "wants", "(I)I"⟩
abbrev cX5_load : ByteArray := prog_7_method_97_code
def yX5_load : MethodName := ⟨RX5, "load", "(I)I"⟩
abbrev cX5_judge : ByteArray := prog_7_method_98_code
def yX5_judge : MethodName := ⟨RX5, "judge", "(I)I"⟩
abbrev cX5_image : ByteArray := prog_7_method_99_code
def yX5_image : MethodName := ⟨RX5, "image", "()I"⟩
abbrev cX5_undo : ByteArray := prog_7_method_100_code
def yX5_undo : MethodName := ⟨RX5, "undo", "()I"⟩
abbrev cX5_tear : ByteArray := prog_7_method_101_code
def yX5_tear : MethodName := ⟨RX5, "tear", "()I"⟩
abbrev cX5_count : ByteArray := prog_7_method_102_code
def yX5_count : MethodName := ⟨RX5, "count", "(I)I"⟩
abbrev cX5_status : ByteArray := prog_7_method_103_code
def yX5_status : MethodName := ⟨RX5, "status", "(I)I"⟩
def RJ6 : String := "java/lang/Integer"
abbrev cJ6_bitCount_0f7a4 : ByteArray := prog_8_method_49_code
def yJ6_bitCount_0f7a4 : MethodName := ⟨RJ6, "bitCount", "(I)I"⟩
def RJ9 : String := "java/lang/Math"
abbrev cJ9_max_7cf53 : ByteArray := prog_9_method_65_code
def yJ9_max_7cf53 : MethodName := ⟨RJ9, "max", "(II)I"⟩
abbrev cJ9_min_7cf53 : ByteArray := prog_9_method_69_code
def yJ9_min_7cf53 : MethodName := ⟨RJ9, "min", "(II)I"⟩
def RJ0 : String := "java/lang/String"
abbrev cJ0_length_8abf5 : ByteArray := prog_10_method_54_code
def yJ0_length_8abf5 : MethodName := ⟨RJ0, "length", "()I"⟩
abbrev cJ0_charAt_5068e : ByteArray := prog_10_method_56_code
def yJ0_charAt_5068e : MethodName := ⟨RJ0, "charAt", "(I)C"⟩
abbrev cJ0_coder_7d493 : ByteArray := prog_10_method_152_code
def yJ0_coder_7d493 : MethodName := ⟨RJ0, "coder", "()B"⟩
abbrev cJ0_isLatin1_aae02 : ByteArray := prog_10_method_154_code
def yJ0_isLatin1_aae02 : MethodName := ⟨RJ0, "isLatin1", "()Z"⟩
abbrev cJ0_checkIndex_df160 : ByteArray := prog_10_method_155_code
def yJ0_checkIndex_df160 : MethodName := ⟨RJ0, "checkIndex", "(II)V"⟩
def RJ1 : String := "java/lang/StringLatin1"
abbrev cJ1_charAt_3b067 : ByteArray := prog_11_method_2_code
def yJ1_charAt_3b067 : MethodName := ⟨RJ1, "charAt", "([BI)C"⟩
def RJ2 : String := "java/lang/StringUTF16"
abbrev cJ2_getChar_3b067 : ByteArray := prog_12_method_5_code
def yJ2_getChar_3b067 : MethodName := ⟨RJ2, "getChar", "([BI)C"⟩
abbrev cJ2_length_9d52b : ByteArray := prog_12_method_6_code
def yJ2_length_9d52b : MethodName := ⟨RJ2, "length", "([B)I"⟩
abbrev cJ2_charAt_3b067 : ByteArray := prog_12_method_83_code
def yJ2_charAt_3b067 : MethodName := ⟨RJ2, "charAt", "([BI)C"⟩
abbrev cJ2_checkIndex_2214a : ByteArray := prog_12_method_91_code
def yJ2_checkIndex_2214a : MethodName := ⟨RJ2, "checkIndex", "(I[B)V"⟩
def RJ10 : String := "java/lang/System"
def RJ3 : String := "jdk/internal/util/Preconditions"
abbrev cJ3_checkIndex_8e157 : ByteArray := prog_14_method_11_code
def yJ3_checkIndex_8e157 : MethodName := ⟨RJ3, "checkIndex", "(IILjava/util/function/BiFunction;)I"⟩
def RL : String := "TubStepsLaw"
abbrev cL_law : ByteArray := code
def yL_law : MethodName := ⟨RL, "law", "([I)Z"⟩
abbrev vwCl : List vw_C := [(RX1, TX1, 3), (RX2, TX2, 12), (RX3, TX3, 6), (RX4, TX4, 9), (RX5, TX5, 16)]
def rv_strB : List (List Int32) := [[100, 117, 99, 104, 101, 115, 115], [99, 108, 101, 114, 107], [115, 112, 121], [108, 97, 109, 112, 108, 105, 103, 104, 116, 101, 114], [115, 97, 100], [99, 111, 110, 115, 117, 108], [98, 97, 116, 104, 101, 114], [105, 110], [119, 105, 116, 104], [107, 110, 111, 119, 115], [116, 117, 98], [111, 102], [102, 114, 101, 115, 104], [112, 108, 117, 103]]
def rv_strW : List (Nat × String) := [(111, "duchess"), (113, "clerk"), (115, "spy"), (117, "lamplighter"), (119, "sad"), (121, "consul"), (123, "bather"), (82, "in"), (84, "with"), (86, "knows"), (52, "tub"), (96, "of"), (61, "fresh"), (72, "plug")]
def rv_above : List Int32 := [-1, 0, 0, 2, 3, 0, 1]
