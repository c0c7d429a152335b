section
-- ===== PART A: goes FIRST, ahead of the names: the tables' words, and 'selects' of the private methods out of them =====
/-- a private method of a class that the tables say can be made, by its rows of tables_1 -/
def lw_okq (q : MethodName × Nat) : Prop := (q.1.cls ≠ "java/lang/invoke/MethodHandle" ∧ q.1.cls ≠ "java/lang/invoke/VarHandle") ∧ Cond.instantiable q.1.cls q.2 ∈ tables_1 ∧ Cond.privateMethod q.1 ∈ tables_1 ∧ Cond.instanceMethod q.1 ∈ tables_1
theorem lw_p0 : lw_okq (⟨"TubSteps", "finding", "(I)I"⟩, 9) := ⟨⟨by decide +kernel, by decide +kernel⟩, List.mem_of_getElem? (i := 15) (by decide +kernel), List.mem_of_getElem? (i := 164) (by decide +kernel), List.mem_of_getElem? (i := 165) (by decide +kernel)⟩
theorem lw_p1 : lw_okq (⟨"TubSteps$Spa", "letWaterDown", "()V"⟩, 12) := ⟨⟨by decide +kernel, by decide +kernel⟩, List.mem_of_getElem? (i := 23) (by decide +kernel), List.mem_of_getElem? (i := 290) (by decide +kernel), List.mem_of_getElem? (i := 291) (by decide +kernel)⟩
theorem lw_p2 : lw_okq (⟨"TubSteps$Spa", "isHere", "(I)Z"⟩, 12) := ⟨⟨by decide +kernel, by decide +kernel⟩, List.mem_of_getElem? (i := 23) (by decide +kernel), List.mem_of_getElem? (i := 301) (by decide +kernel), List.mem_of_getElem? (i := 302) (by decide +kernel)⟩
theorem lw_p3 : lw_okq (⟨"TubSteps$Spa", "bathe", "(I)V"⟩, 12) := ⟨⟨by decide +kernel, by decide +kernel⟩, List.mem_of_getElem? (i := 23) (by decide +kernel), List.mem_of_getElem? (i := 305) (by decide +kernel), List.mem_of_getElem? (i := 306) (by decide +kernel)⟩
theorem lw_p4 : lw_okq (⟨"TubSteps", "hoursUntilKnown", "(III)I"⟩, 9) := ⟨⟨by decide +kernel, by decide +kernel⟩, List.mem_of_getElem? (i := 15) (by decide +kernel), List.mem_of_getElem? (i := 363) (by decide +kernel), List.mem_of_getElem? (i := 364) (by decide +kernel)⟩
theorem lw_p5 : lw_okq (⟨"TubSteps", "isLearned", "(II)Z"⟩, 9) := ⟨⟨by decide +kernel, by decide +kernel⟩, List.mem_of_getElem? (i := 15) (by decide +kernel), List.mem_of_getElem? (i := 402) (by decide +kernel), List.mem_of_getElem? (i := 403) (by decide +kernel)⟩
theorem lw_p6 : lw_okq (⟨"TubSteps", "lackOf", "(I)I"⟩, 9) := ⟨⟨by decide +kernel, by decide +kernel⟩, List.mem_of_getElem? (i := 15) (by decide +kernel), List.mem_of_getElem? (i := 419) (by decide +kernel), List.mem_of_getElem? (i := 420) (by decide +kernel)⟩
theorem lw_p7 : lw_okq (⟨"TubSteps", "comesOutAs", "(LTubSteps$Sheet;)Z"⟩, 9) := ⟨⟨by decide +kernel, by decide +kernel⟩, List.mem_of_getElem? (i := 15) (by decide +kernel), List.mem_of_getElem? (i := 430) (by decide +kernel), List.mem_of_getElem? (i := 431) (by decide +kernel)⟩
theorem lw_p8 : lw_okq (⟨"TubSteps$TextReader", "readToken", "()V"⟩, 6) := ⟨⟨by decide +kernel, by decide +kernel⟩, List.mem_of_getElem? (i := 82) (by decide +kernel), List.mem_of_getElem? (i := 481) (by decide +kernel), List.mem_of_getElem? (i := 482) (by decide +kernel)⟩
theorem lw_p9 : lw_okq (⟨"TubSteps$TextReader", "byteAt", "(I)I"⟩, 6) := ⟨⟨by decide +kernel, by decide +kernel⟩, List.mem_of_getElem? (i := 82) (by decide +kernel), List.mem_of_getElem? (i := 485) (by decide +kernel), List.mem_of_getElem? (i := 486) (by decide +kernel)⟩
theorem lw_p10 : lw_okq (⟨"TubSteps$TextReader", "readItem", "(LTubSteps$Spa;)Z"⟩, 6) := ⟨⟨by decide +kernel, by decide +kernel⟩, List.mem_of_getElem? (i := 82) (by decide +kernel), List.mem_of_getElem? (i := 495) (by decide +kernel), List.mem_of_getElem? (i := 496) (by decide +kernel)⟩
theorem lw_p11 : lw_okq (⟨"TubSteps$TextReader", "kindAtHand", "()I"⟩, 6) := ⟨⟨by decide +kernel, by decide +kernel⟩, List.mem_of_getElem? (i := 82) (by decide +kernel), List.mem_of_getElem? (i := 499) (by decide +kernel), List.mem_of_getElem? (i := 500) (by decide +kernel)⟩
theorem lw_p12 : lw_okq (⟨"TubSteps$TextReader", "isAtHand", "(Ljava/lang/String;)Z"⟩, 6) := ⟨⟨by decide +kernel, by decide +kernel⟩, List.mem_of_getElem? (i := 82) (by decide +kernel), List.mem_of_getElem? (i := 513) (by decide +kernel), List.mem_of_getElem? (i := 514) (by decide +kernel)⟩
theorem lw_p13 : lw_okq (⟨"TubSteps$TextReader", "readBather", "(LTubSteps$Spa;I)Z"⟩, 6) := ⟨⟨by decide +kernel, by decide +kernel⟩, List.mem_of_getElem? (i := 82) (by decide +kernel), List.mem_of_getElem? (i := 565) (by decide +kernel), List.mem_of_getElem? (i := 566) (by decide +kernel)⟩
theorem lw_p14 : lw_okq (⟨"TubSteps$TextReader", "passWord", "(Ljava/lang/String;)Z"⟩, 6) := ⟨⟨by decide +kernel, by decide +kernel⟩, List.mem_of_getElem? (i := 82) (by decide +kernel), List.mem_of_getElem? (i := 571) (by decide +kernel), List.mem_of_getElem? (i := 572) (by decide +kernel)⟩
theorem lw_p15 : lw_okq (⟨"TubSteps$TextReader", "passNumber", "(I)I"⟩, 6) := ⟨⟨by decide +kernel, by decide +kernel⟩, List.mem_of_getElem? (i := 82) (by decide +kernel), List.mem_of_getElem? (i := 575) (by decide +kernel), List.mem_of_getElem? (i := 576) (by decide +kernel)⟩
def lw_privs_1 : List (MethodName × Nat) := [(⟨"TubSteps", "finding", "(I)I"⟩, 9), (⟨"TubSteps$Spa", "letWaterDown", "()V"⟩, 12), (⟨"TubSteps$Spa", "isHere", "(I)Z"⟩, 12), (⟨"TubSteps$Spa", "bathe", "(I)V"⟩, 12), (⟨"TubSteps", "hoursUntilKnown", "(III)I"⟩, 9), (⟨"TubSteps", "isLearned", "(II)Z"⟩, 9), (⟨"TubSteps", "lackOf", "(I)I"⟩, 9), (⟨"TubSteps", "comesOutAs", "(LTubSteps$Sheet;)Z"⟩, 9), (⟨"TubSteps$TextReader", "readToken", "()V"⟩, 6), (⟨"TubSteps$TextReader", "byteAt", "(I)I"⟩, 6), (⟨"TubSteps$TextReader", "readItem", "(LTubSteps$Spa;)Z"⟩, 6), (⟨"TubSteps$TextReader", "kindAtHand", "()I"⟩, 6), (⟨"TubSteps$TextReader", "isAtHand", "(Ljava/lang/String;)Z"⟩, 6), (⟨"TubSteps$TextReader", "readBather", "(LTubSteps$Spa;I)Z"⟩, 6), (⟨"TubSteps$TextReader", "passWord", "(Ljava/lang/String;)Z"⟩, 6), (⟨"TubSteps$TextReader", "passNumber", "(I)I"⟩, 6)]
theorem lw_r1 : ∀ q ∈ lw_privs_1, lw_okq q := List.forall_mem_cons.mpr ⟨lw_p0, List.forall_mem_cons.mpr ⟨lw_p1, List.forall_mem_cons.mpr ⟨lw_p2, List.forall_mem_cons.mpr ⟨lw_p3, List.forall_mem_cons.mpr ⟨lw_p4, List.forall_mem_cons.mpr ⟨lw_p5, List.forall_mem_cons.mpr ⟨lw_p6, List.forall_mem_cons.mpr ⟨lw_p7, List.forall_mem_cons.mpr ⟨lw_p8, List.forall_mem_cons.mpr ⟨lw_p9, List.forall_mem_cons.mpr ⟨lw_p10, List.forall_mem_cons.mpr ⟨lw_p11, List.forall_mem_cons.mpr ⟨lw_p12, List.forall_mem_cons.mpr ⟨lw_p13, List.forall_mem_cons.mpr ⟨lw_p14, List.forall_mem_cons.mpr ⟨lw_p15, fun _ h => absurd h List.not_mem_nil⟩⟩⟩⟩⟩⟩⟩⟩⟩⟩⟩⟩⟩⟩⟩⟩
theorem lw_p16 : lw_okq (⟨"TubSteps$TextReader", "readTub", "(LTubSteps$Spa;)Z"⟩, 6) := ⟨⟨by decide +kernel, by decide +kernel⟩, List.mem_of_getElem? (i := 82) (by decide +kernel), List.mem_of_getElem? (i := 583) (by decide +kernel), List.mem_of_getElem? (i := 584) (by decide +kernel)⟩
theorem lw_p17 : lw_okq (⟨"TubStepsModel", "becomes", "(II)I"⟩, 16) := ⟨⟨by decide +kernel, by decide +kernel⟩, List.mem_of_getElem? (i := 671) (by decide +kernel), List.mem_of_getElem? (i := 737) (by decide +kernel), List.mem_of_getElem? (i := 738) (by decide +kernel)⟩
theorem lw_p18 : lw_okq (⟨"TubStepsModel", "finds", "(I)I"⟩, 16) := ⟨⟨by decide +kernel, by decide +kernel⟩, List.mem_of_getElem? (i := 671) (by decide +kernel), List.mem_of_getElem? (i := 742) (by decide +kernel), List.mem_of_getElem? (i := 743) (by decide +kernel)⟩
theorem lw_p19 : lw_okq (⟨"TubStepsModel", "there", "(I)I"⟩, 16) := ⟨⟨by decide +kernel, by decide +kernel⟩, List.mem_of_getElem? (i := 671) (by decide +kernel), List.mem_of_getElem? (i := 762) (by decide +kernel), List.mem_of_getElem? (i := 763) (by decide +kernel)⟩
theorem lw_p20 : lw_okq (⟨"TubStepsModel", "its", "(II)I"⟩, 16) := ⟨⟨by decide +kernel, by decide +kernel⟩, List.mem_of_getElem? (i := 671) (by decide +kernel), List.mem_of_getElem? (i := 766) (by decide +kernel), List.mem_of_getElem? (i := 767) (by decide +kernel)⟩
theorem lw_p21 : lw_okq (⟨"TubStepsModel", "allIn", "(I)I"⟩, 16) := ⟨⟨by decide +kernel, by decide +kernel⟩, List.mem_of_getElem? (i := 671) (by decide +kernel), List.mem_of_getElem? (i := 770) (by decide +kernel), List.mem_of_getElem? (i := 771) (by decide +kernel)⟩
theorem lw_p22 : lw_okq (⟨"TubStepsModel", "pulls", "(I)I"⟩, 16) := ⟨⟨by decide +kernel, by decide +kernel⟩, List.mem_of_getElem? (i := 671) (by decide +kernel), List.mem_of_getElem? (i := 782) (by decide +kernel), List.mem_of_getElem? (i := 783) (by decide +kernel)⟩
theorem lw_p23 : lw_okq (⟨"TubStepsModel", "comes", "(IIII)V"⟩, 16) := ⟨⟨by decide +kernel, by decide +kernel⟩, List.mem_of_getElem? (i := 671) (by decide +kernel), List.mem_of_getElem? (i := 791) (by decide +kernel), List.mem_of_getElem? (i := 792) (by decide +kernel)⟩
theorem lw_p24 : lw_okq (⟨"TubStepsModel", "isBather", "(I)Z"⟩, 16) := ⟨⟨by decide +kernel, by decide +kernel⟩, List.mem_of_getElem? (i := 671) (by decide +kernel), List.mem_of_getElem? (i := 799) (by decide +kernel), List.mem_of_getElem? (i := 800) (by decide +kernel)⟩
theorem lw_p25 : lw_okq (⟨"TubStepsModel", "adds", "(I)I"⟩, 16) := ⟨⟨by decide +kernel, by decide +kernel⟩, List.mem_of_getElem? (i := 671) (by decide +kernel), List.mem_of_getElem? (i := 804) (by decide +kernel), List.mem_of_getElem? (i := 805) (by decide +kernel)⟩
theorem lw_p26 : lw_okq (⟨"TubStepsModel", "cools", "(I)I"⟩, 16) := ⟨⟨by decide +kernel, by decide +kernel⟩, List.mem_of_getElem? (i := 671) (by decide +kernel), List.mem_of_getElem? (i := 811) (by decide +kernel), List.mem_of_getElem? (i := 812) (by decide +kernel)⟩
theorem lw_p27 : lw_okq (⟨"TubStepsModel", "nose", "(I)I"⟩, 16) := ⟨⟨by decide +kernel, by decide +kernel⟩, List.mem_of_getElem? (i := 671) (by decide +kernel), List.mem_of_getElem? (i := 815) (by decide +kernel), List.mem_of_getElem? (i := 816) (by decide +kernel)⟩
theorem lw_p28 : lw_okq (⟨"TubStepsModel", "smells", "(I)I"⟩, 16) := ⟨⟨by decide +kernel, by decide +kernel⟩, List.mem_of_getElem? (i := 671) (by decide +kernel), List.mem_of_getElem? (i := 819) (by decide +kernel), List.mem_of_getElem? (i := 820) (by decide +kernel)⟩
theorem lw_p29 : lw_okq (⟨"TubStepsModel", "swaps", "(II)I"⟩, 16) := ⟨⟨by decide +kernel, by decide +kernel⟩, List.mem_of_getElem? (i := 671) (by decide +kernel), List.mem_of_getElem? (i := 835) (by decide +kernel), List.mem_of_getElem? (i := 836) (by decide +kernel)⟩
theorem lw_p30 : lw_okq (⟨"TubStepsModel", "hours", "(I)V"⟩, 16) := ⟨⟨by decide +kernel, by decide +kernel⟩, List.mem_of_getElem? (i := 671) (by decide +kernel), List.mem_of_getElem? (i := 846) (by decide +kernel), List.mem_of_getElem? (i := 847) (by decide +kernel)⟩
theorem lw_p31 : lw_okq (⟨"TubStepsModel", "hourBut", "(I)J"⟩, 16) := ⟨⟨by decide +kernel, by decide +kernel⟩, List.mem_of_getElem? (i := 671) (by decide +kernel), List.mem_of_getElem? (i := 850) (by decide +kernel), List.mem_of_getElem? (i := 851) (by decide +kernel)⟩
def lw_privs_2 : List (MethodName × Nat) := [(⟨"TubSteps$TextReader", "readTub", "(LTubSteps$Spa;)Z"⟩, 6), (⟨"TubStepsModel", "becomes", "(II)I"⟩, 16), (⟨"TubStepsModel", "finds", "(I)I"⟩, 16), (⟨"TubStepsModel", "there", "(I)I"⟩, 16), (⟨"TubStepsModel", "its", "(II)I"⟩, 16), (⟨"TubStepsModel", "allIn", "(I)I"⟩, 16), (⟨"TubStepsModel", "pulls", "(I)I"⟩, 16), (⟨"TubStepsModel", "comes", "(IIII)V"⟩, 16), (⟨"TubStepsModel", "isBather", "(I)Z"⟩, 16), (⟨"TubStepsModel", "adds", "(I)I"⟩, 16), (⟨"TubStepsModel", "cools", "(I)I"⟩, 16), (⟨"TubStepsModel", "nose", "(I)I"⟩, 16), (⟨"TubStepsModel", "smells", "(I)I"⟩, 16), (⟨"TubStepsModel", "swaps", "(II)I"⟩, 16), (⟨"TubStepsModel", "hours", "(I)V"⟩, 16), (⟨"TubStepsModel", "hourBut", "(I)J"⟩, 16)]
theorem lw_r2 : ∀ q ∈ lw_privs_2, lw_okq q := List.forall_mem_cons.mpr ⟨lw_p16, List.forall_mem_cons.mpr ⟨lw_p17, List.forall_mem_cons.mpr ⟨lw_p18, List.forall_mem_cons.mpr ⟨lw_p19, List.forall_mem_cons.mpr ⟨lw_p20, List.forall_mem_cons.mpr ⟨lw_p21, List.forall_mem_cons.mpr ⟨lw_p22, List.forall_mem_cons.mpr ⟨lw_p23, List.forall_mem_cons.mpr ⟨lw_p24, List.forall_mem_cons.mpr ⟨lw_p25, List.forall_mem_cons.mpr ⟨lw_p26, List.forall_mem_cons.mpr ⟨lw_p27, List.forall_mem_cons.mpr ⟨lw_p28, List.forall_mem_cons.mpr ⟨lw_p29, List.forall_mem_cons.mpr ⟨lw_p30, List.forall_mem_cons.mpr ⟨lw_p31, fun _ h => absurd h List.not_mem_nil⟩⟩⟩⟩⟩⟩⟩⟩⟩⟩⟩⟩⟩⟩⟩⟩
theorem lw_p32 : lw_okq (⟨"TubStepsModel", "flows", "()V"⟩, 16) := ⟨⟨by decide +kernel, by decide +kernel⟩, List.mem_of_getElem? (i := 671) (by decide +kernel), List.mem_of_getElem? (i := 854) (by decide +kernel), List.mem_of_getElem? (i := 855) (by decide +kernel)⟩
theorem lw_p33 : lw_okq (⟨"TubStepsModel", "sumOf", "(II)I"⟩, 16) := ⟨⟨by decide +kernel, by decide +kernel⟩, List.mem_of_getElem? (i := 671) (by decide +kernel), List.mem_of_getElem? (i := 862) (by decide +kernel), List.mem_of_getElem? (i := 863) (by decide +kernel)⟩
theorem lw_p34 : lw_okq (⟨"TubStepsModel", "coldTubs", "()I"⟩, 16) := ⟨⟨by decide +kernel, by decide +kernel⟩, List.mem_of_getElem? (i := 671) (by decide +kernel), List.mem_of_getElem? (i := 866) (by decide +kernel), List.mem_of_getElem? (i := 867) (by decide +kernel)⟩
theorem lw_p35 : lw_okq (⟨"TubStepsModel", "knowing", "()I"⟩, 16) := ⟨⟨by decide +kernel, by decide +kernel⟩, List.mem_of_getElem? (i := 671) (by decide +kernel), List.mem_of_getElem? (i := 870) (by decide +kernel), List.mem_of_getElem? (i := 871) (by decide +kernel)⟩
theorem lw_p36 : lw_okq (⟨"TubStepsModel", "unknown", "()I"⟩, 16) := ⟨⟨by decide +kernel, by decide +kernel⟩, List.mem_of_getElem? (i := 671) (by decide +kernel), List.mem_of_getElem? (i := 874) (by decide +kernel), List.mem_of_getElem? (i := 875) (by decide +kernel)⟩
theorem lw_p37 : lw_okq (⟨"TubStepsModel", "knownIn", "(II)I"⟩, 16) := ⟨⟨by decide +kernel, by decide +kernel⟩, List.mem_of_getElem? (i := 671) (by decide +kernel), List.mem_of_getElem? (i := 891) (by decide +kernel), List.mem_of_getElem? (i := 892) (by decide +kernel)⟩
theorem lw_p38 : lw_okq (⟨"TubStepsModel", "soonest", "(II)I"⟩, 16) := ⟨⟨by decide +kernel, by decide +kernel⟩, List.mem_of_getElem? (i := 671) (by decide +kernel), List.mem_of_getElem? (i := 899) (by decide +kernel), List.mem_of_getElem? (i := 900) (by decide +kernel)⟩
theorem lw_p39 : lw_okq (⟨"TubStepsModel", "orNone", "(I)I"⟩, 16) := ⟨⟨by decide +kernel, by decide +kernel⟩, List.mem_of_getElem? (i := 671) (by decide +kernel), List.mem_of_getElem? (i := 903) (by decide +kernel), List.mem_of_getElem? (i := 904) (by decide +kernel)⟩
theorem lw_p40 : lw_okq (⟨"TubStepsModel", "coldest", "()I"⟩, 16) := ⟨⟨by decide +kernel, by decide +kernel⟩, List.mem_of_getElem? (i := 671) (by decide +kernel), List.mem_of_getElem? (i := 941) (by decide +kernel), List.mem_of_getElem? (i := 942) (by decide +kernel)⟩
theorem lw_p41 : lw_okq (⟨"TubStepsModel", "isHidden", "(III)Z"⟩, 16) := ⟨⟨by decide +kernel, by decide +kernel⟩, List.mem_of_getElem? (i := 671) (by decide +kernel), List.mem_of_getElem? (i := 950) (by decide +kernel), List.mem_of_getElem? (i := 951) (by decide +kernel)⟩
theorem lw_p42 : lw_okq (⟨"TubStepsModel", "wantsFor", "(II)I"⟩, 16) := ⟨⟨by decide +kernel, by decide +kernel⟩, List.mem_of_getElem? (i := 671) (by decide +kernel), List.mem_of_getElem? (i := 966) (by decide +kernel), List.mem_of_getElem? (i := 967) (by decide +kernel)⟩
theorem lw_p43 : lw_okq (⟨"TubStepsModel", "wants", "(I)I"⟩, 16) := ⟨⟨by decide +kernel, by decide +kernel⟩, List.mem_of_getElem? (i := 671) (by decide +kernel), List.mem_of_getElem? (i := 970) (by decide +kernel), List.mem_of_getElem? (i := 971) (by decide +kernel)⟩
theorem lw_p44 : lw_okq (⟨"TubStepsModel", "couldBe", "(III)I"⟩, 16) := ⟨⟨by decide +kernel, by decide +kernel⟩, List.mem_of_getElem? (i := 671) (by decide +kernel), List.mem_of_getElem? (i := 978) (by decide +kernel), List.mem_of_getElem? (i := 979) (by decide +kernel)⟩
theorem lw_p45 : lw_okq (⟨"TubStepsModel", "isTold", "(I)Z"⟩, 16) := ⟨⟨by decide +kernel, by decide +kernel⟩, List.mem_of_getElem? (i := 671) (by decide +kernel), List.mem_of_getElem? (i := 982) (by decide +kernel), List.mem_of_getElem? (i := 983) (by decide +kernel)⟩
theorem lw_p46 : lw_okq (⟨"TubStepsModel", "nextToken", "()V"⟩, 16) := ⟨⟨by decide +kernel, by decide +kernel⟩, List.mem_of_getElem? (i := 671) (by decide +kernel), List.mem_of_getElem? (i := 1017) (by decide +kernel), List.mem_of_getElem? (i := 1018) (by decide +kernel)⟩
theorem lw_p47 : lw_okq (⟨"TubStepsModel", "byteAt", "(I)I"⟩, 16) := ⟨⟨by decide +kernel, by decide +kernel⟩, List.mem_of_getElem? (i := 671) (by decide +kernel), List.mem_of_getElem? (i := 1021) (by decide +kernel), List.mem_of_getElem? (i := 1022) (by decide +kernel)⟩
def lw_privs_3 : List (MethodName × Nat) := [(⟨"TubStepsModel", "flows", "()V"⟩, 16), (⟨"TubStepsModel", "sumOf", "(II)I"⟩, 16), (⟨"TubStepsModel", "coldTubs", "()I"⟩, 16), (⟨"TubStepsModel", "knowing", "()I"⟩, 16), (⟨"TubStepsModel", "unknown", "()I"⟩, 16), (⟨"TubStepsModel", "knownIn", "(II)I"⟩, 16), (⟨"TubStepsModel", "soonest", "(II)I"⟩, 16), (⟨"TubStepsModel", "orNone", "(I)I"⟩, 16), (⟨"TubStepsModel", "coldest", "()I"⟩, 16), (⟨"TubStepsModel", "isHidden", "(III)Z"⟩, 16), (⟨"TubStepsModel", "wantsFor", "(II)I"⟩, 16), (⟨"TubStepsModel", "wants", "(I)I"⟩, 16), (⟨"TubStepsModel", "couldBe", "(III)I"⟩, 16), (⟨"TubStepsModel", "isTold", "(I)Z"⟩, 16), (⟨"TubStepsModel", "nextToken", "()V"⟩, 16), (⟨"TubStepsModel", "byteAt", "(I)I"⟩, 16)]
theorem lw_r3 : ∀ q ∈ lw_privs_3, lw_okq q := List.forall_mem_cons.mpr ⟨lw_p32, List.forall_mem_cons.mpr ⟨lw_p33, List.forall_mem_cons.mpr ⟨lw_p34, List.forall_mem_cons.mpr ⟨lw_p35, List.forall_mem_cons.mpr ⟨lw_p36, List.forall_mem_cons.mpr ⟨lw_p37, List.forall_mem_cons.mpr ⟨lw_p38, List.forall_mem_cons.mpr ⟨lw_p39, List.forall_mem_cons.mpr ⟨lw_p40, List.forall_mem_cons.mpr ⟨lw_p41, List.forall_mem_cons.mpr ⟨lw_p42, List.forall_mem_cons.mpr ⟨lw_p43, List.forall_mem_cons.mpr ⟨lw_p44, List.forall_mem_cons.mpr ⟨lw_p45, List.forall_mem_cons.mpr ⟨lw_p46, List.forall_mem_cons.mpr ⟨lw_p47, fun _ h => absurd h List.not_mem_nil⟩⟩⟩⟩⟩⟩⟩⟩⟩⟩⟩⟩⟩⟩⟩⟩
theorem lw_p48 : lw_okq (⟨"TubStepsModel", "itemHere", "()Z"⟩, 16) := ⟨⟨by decide +kernel, by decide +kernel⟩, List.mem_of_getElem? (i := 671) (by decide +kernel), List.mem_of_getElem? (i := 1031) (by decide +kernel), List.mem_of_getElem? (i := 1032) (by decide +kernel)⟩
theorem lw_p49 : lw_okq (⟨"TubStepsModel", "kindHere", "()I"⟩, 16) := ⟨⟨by decide +kernel, by decide +kernel⟩, List.mem_of_getElem? (i := 671) (by decide +kernel), List.mem_of_getElem? (i := 1035) (by decide +kernel), List.mem_of_getElem? (i := 1036) (by decide +kernel)⟩
theorem lw_p50 : lw_okq (⟨"TubStepsModel", "isSix", "(IIIIII)Z"⟩, 16) := ⟨⟨by decide +kernel, by decide +kernel⟩, List.mem_of_getElem? (i := 671) (by decide +kernel), List.mem_of_getElem? (i := 1039) (by decide +kernel), List.mem_of_getElem? (i := 1040) (by decide +kernel)⟩
theorem lw_p51 : lw_okq (⟨"TubStepsModel", "isWord", "(I)Z"⟩, 16) := ⟨⟨by decide +kernel, by decide +kernel⟩, List.mem_of_getElem? (i := 671) (by decide +kernel), List.mem_of_getElem? (i := 1043) (by decide +kernel), List.mem_of_getElem? (i := 1044) (by decide +kernel)⟩
theorem lw_p52 : lw_okq (⟨"TubStepsModel", "has3", "(IIII)Z"⟩, 16) := ⟨⟨by decide +kernel, by decide +kernel⟩, List.mem_of_getElem? (i := 671) (by decide +kernel), List.mem_of_getElem? (i := 1047) (by decide +kernel), List.mem_of_getElem? (i := 1048) (by decide +kernel)⟩
theorem lw_p53 : lw_okq (⟨"TubStepsModel", "isFive", "(IIIII)Z"⟩, 16) := ⟨⟨by decide +kernel, by decide +kernel⟩, List.mem_of_getElem? (i := 671) (by decide +kernel), List.mem_of_getElem? (i := 1051) (by decide +kernel), List.mem_of_getElem? (i := 1052) (by decide +kernel)⟩
theorem lw_p54 : lw_okq (⟨"TubStepsModel", "batherHere", "(I)Z"⟩, 16) := ⟨⟨by decide +kernel, by decide +kernel⟩, List.mem_of_getElem? (i := 671) (by decide +kernel), List.mem_of_getElem? (i := 1055) (by decide +kernel), List.mem_of_getElem? (i := 1056) (by decide +kernel)⟩
theorem lw_p55 : lw_okq (⟨"TubStepsModel", "fails", "()Z"⟩, 16) := ⟨⟨by decide +kernel, by decide +kernel⟩, List.mem_of_getElem? (i := 671) (by decide +kernel), List.mem_of_getElem? (i := 1059) (by decide +kernel), List.mem_of_getElem? (i := 1060) (by decide +kernel)⟩
theorem lw_p56 : lw_okq (⟨"TubStepsModel", "isTwo", "(II)Z"⟩, 16) := ⟨⟨by decide +kernel, by decide +kernel⟩, List.mem_of_getElem? (i := 671) (by decide +kernel), List.mem_of_getElem? (i := 1063) (by decide +kernel), List.mem_of_getElem? (i := 1064) (by decide +kernel)⟩
theorem lw_p57 : lw_okq (⟨"TubStepsModel", "perhaps", "(ZI)Z"⟩, 16) := ⟨⟨by decide +kernel, by decide +kernel⟩, List.mem_of_getElem? (i := 671) (by decide +kernel), List.mem_of_getElem? (i := 1067) (by decide +kernel), List.mem_of_getElem? (i := 1068) (by decide +kernel)⟩
theorem lw_p58 : lw_okq (⟨"TubStepsModel", "isNumber", "(II)Z"⟩, 16) := ⟨⟨by decide +kernel, by decide +kernel⟩, List.mem_of_getElem? (i := 671) (by decide +kernel), List.mem_of_getElem? (i := 1071) (by decide +kernel), List.mem_of_getElem? (i := 1072) (by decide +kernel)⟩
theorem lw_p59 : lw_okq (⟨"TubStepsModel", "isFour", "(IIII)Z"⟩, 16) := ⟨⟨by decide +kernel, by decide +kernel⟩, List.mem_of_getElem? (i := 671) (by decide +kernel), List.mem_of_getElem? (i := 1075) (by decide +kernel), List.mem_of_getElem? (i := 1076) (by decide +kernel)⟩
theorem lw_p60 : lw_okq (⟨"TubStepsModel", "tubHere", "()Z"⟩, 16) := ⟨⟨by decide +kernel, by decide +kernel⟩, List.mem_of_getElem? (i := 671) (by decide +kernel), List.mem_of_getElem? (i := 1079) (by decide +kernel), List.mem_of_getElem? (i := 1080) (by decide +kernel)⟩
theorem lw_p61 : lw_okq (⟨"TubStepsModel", "freshHere", "()Z"⟩, 16) := ⟨⟨by decide +kernel, by decide +kernel⟩, List.mem_of_getElem? (i := 671) (by decide +kernel), List.mem_of_getElem? (i := 1083) (by decide +kernel), List.mem_of_getElem? (i := 1084) (by decide +kernel)⟩
theorem lw_p62 : lw_okq (⟨"TubStepsModel", "plugHere", "()Z"⟩, 16) := ⟨⟨by decide +kernel, by decide +kernel⟩, List.mem_of_getElem? (i := 671) (by decide +kernel), List.mem_of_getElem? (i := 1087) (by decide +kernel), List.mem_of_getElem? (i := 1088) (by decide +kernel)⟩
def lw_privs_4 : List (MethodName × Nat) := [(⟨"TubStepsModel", "itemHere", "()Z"⟩, 16), (⟨"TubStepsModel", "kindHere", "()I"⟩, 16), (⟨"TubStepsModel", "isSix", "(IIIIII)Z"⟩, 16), (⟨"TubStepsModel", "isWord", "(I)Z"⟩, 16), (⟨"TubStepsModel", "has3", "(IIII)Z"⟩, 16), (⟨"TubStepsModel", "isFive", "(IIIII)Z"⟩, 16), (⟨"TubStepsModel", "batherHere", "(I)Z"⟩, 16), (⟨"TubStepsModel", "fails", "()Z"⟩, 16), (⟨"TubStepsModel", "isTwo", "(II)Z"⟩, 16), (⟨"TubStepsModel", "perhaps", "(ZI)Z"⟩, 16), (⟨"TubStepsModel", "isNumber", "(II)Z"⟩, 16), (⟨"TubStepsModel", "isFour", "(IIII)Z"⟩, 16), (⟨"TubStepsModel", "tubHere", "()Z"⟩, 16), (⟨"TubStepsModel", "freshHere", "()Z"⟩, 16), (⟨"TubStepsModel", "plugHere", "()Z"⟩, 16)]
theorem lw_r4 : ∀ q ∈ lw_privs_4, lw_okq q := List.forall_mem_cons.mpr ⟨lw_p48, List.forall_mem_cons.mpr ⟨lw_p49, List.forall_mem_cons.mpr ⟨lw_p50, List.forall_mem_cons.mpr ⟨lw_p51, List.forall_mem_cons.mpr ⟨lw_p52, List.forall_mem_cons.mpr ⟨lw_p53, List.forall_mem_cons.mpr ⟨lw_p54, List.forall_mem_cons.mpr ⟨lw_p55, List.forall_mem_cons.mpr ⟨lw_p56, List.forall_mem_cons.mpr ⟨lw_p57, List.forall_mem_cons.mpr ⟨lw_p58, List.forall_mem_cons.mpr ⟨lw_p59, List.forall_mem_cons.mpr ⟨lw_p60, List.forall_mem_cons.mpr ⟨lw_p61, List.forall_mem_cons.mpr ⟨lw_p62, fun _ h => absurd h List.not_mem_nil⟩⟩⟩⟩⟩⟩⟩⟩⟩⟩⟩⟩⟩⟩⟩
def lw_privs : List (MethodName × Nat) := lw_privs_1 ++ (lw_privs_2 ++ (lw_privs_3 ++ (lw_privs_4)))
def lw_tbl : List Cond := k2_sels lw_privs ++ tables_1
theorem lw_privs_ok : ∀ q ∈ lw_privs, lw_okq q := by
  show ∀ q ∈ lw_privs_1 ++ (lw_privs_2 ++ (lw_privs_3 ++ (lw_privs_4))), lw_okq q
  exact List.forall_mem_append.mpr ⟨lw_r1, List.forall_mem_append.mpr ⟨lw_r2, List.forall_mem_append.mpr ⟨lw_r3, lw_r4⟩⟩⟩
def RX0 : String := "TubSteps$Kinds"
def TX0 : u_T := fun k => match k with
  | _ => ("", "", "", false)
def tyX0 : Nat → FieldType := fun k => match k with
  | _ => .int
abbrev wsX00 : List Cond := u_ws RX0 TX0 0
theorem nmX0 : ∀ a, a < 0 → ∀ b, b < 0 → a ≠ b → (TX0 a).2.1 ≠ (TX0 b).2.1 := by decide +kernel
theorem tyX0_ok : ∀ k, k < 0 → parseFieldDescriptor (TX0 k).2.2.1 = some (tyX0 k) := by decide +kernel
abbrev cX0_isKind : ByteArray := prog_2_method_2_code
def yX0_isKind : MethodName := ⟨RX0, "isKind", "(I)Z"⟩
abbrev cX0_isUnder : ByteArray := prog_2_method_3_code
def yX0_isUnder : MethodName := ⟨RX0, "isUnder", "(II)Z"⟩
abbrev cX0_adds : ByteArray := prog_2_method_4_code
def yX0_adds : MethodName := ⟨RX0, "adds", "(IIII)I"⟩
abbrev cX0_cools : ByteArray := prog_2_method_5_code
def yX0_cools : MethodName := ⟨RX0, "cools", "(I)I"⟩
abbrev cX0_nose : ByteArray := prog_2_method_6_code
def yX0_nose : MethodName := ⟨RX0, "nose", "(I)I"⟩
def RX1 : String := "TubSteps$Sheet"
def TX1 : u_T := fun k => match k with
  | 0 => ("TubSteps$Sheet", "numbers", "[I", true)
  | 1 => ("TubSteps$Sheet", "bits", "I", false)
  | _ => ("TubSteps$Sheet", "length", "I", false)
def tyX1 : Nat → FieldType := fun k => match k with
  | 0 => .array .int
  | 1 => .int
  | _ => .int
abbrev wsX10 : List Cond := u_ws RX1 TX1 3
theorem nmX1 : ∀ a, a < 3 → ∀ b, b < 3 → a ≠ b → (TX1 a).2.1 ≠ (TX1 b).2.1 := by decide +kernel
theorem tyX1_ok : ∀ k, k < 3 → parseFieldDescriptor (TX1 k).2.2.1 = some (tyX1 k) := by decide +kernel
abbrev cX1_init : ByteArray := prog_3_method_1_code
def yX1_init : MethodName := ⟨RX1, "<init>", "()V"⟩
abbrev cX1_begin : ByteArray := prog_3_method_2_code
def yX1_begin : MethodName := ⟨RX1, "begin", "(II)V"⟩
abbrev cX1_isMissing : ByteArray := prog_3_method_3_code
def yX1_isMissing : MethodName := ⟨RX1, "isMissing", "()Z"⟩
abbrev cX1_hasSpan : ByteArray := prog_3_method_4_code
def yX1_hasSpan : MethodName := ⟨RX1, "hasSpan", "(II)Z"⟩
abbrev cX1_put : ByteArray := prog_3_method_5_code
def yX1_put : MethodName := ⟨RX1, "put", "(II)V"⟩
def RX2 : String := "TubSteps$Spa"
def TX2 : u_T := fun k => match k with
  | 0 => ("TubSteps$Spa", "warmth", "[I", true)
  | 1 => ("TubSteps$Spa", "scents", "[I", true)
  | 2 => ("TubSteps$Spa", "kindOf", "[I", true)
  | 3 => ("TubSteps$Spa", "tubOf", "[I", true)
  | 4 => ("TubSteps$Spa", "scentOf", "[I", true)
  | 5 => ("TubSteps$Spa", "known", "[I", true)
  | 6 => ("TubSteps$Spa", "spots", "[I", true)
  | 7 => ("TubSteps$Spa", "bathers", "I", false)
  | 8 => ("TubSteps$Spa", "newWarmth", "I", false)
  | 9 => ("TubSteps$Spa", "hour", "I", false)
  | 10 => ("TubSteps$Spa", "z", "I", false)
  | _ => ("TubSteps$Spa", "gone", "I", false)
def tyX2 : Nat → FieldType := fun k => match k with
  | 0 => .array .int
  | 1 => .array .int
  | 2 => .array .int
  | 3 => .array .int
  | 4 => .array .int
  | 5 => .array .int
  | 6 => .array .int
  | 7 => .int
  | 8 => .int
  | 9 => .int
  | 10 => .int
  | _ => .int
abbrev wsX20 : List Cond := u_ws RX2 TX2 12
theorem nmX2 : ∀ a, a < 12 → ∀ b, b < 12 → a ≠ b → (TX2 a).2.1 ≠ (TX2 b).2.1 := by decide +kernel
theorem tyX2_ok : ∀ k, k < 12 → parseFieldDescriptor (TX2 k).2.2.1 = some (tyX2 k) := by decide +kernel
abbrev cX2_init : ByteArray := prog_4_method_1_code
def yX2_init : MethodName := ⟨RX2, "<init>", "()V"⟩
abbrev cX2_take : ByteArray := prog_4_method_2_code
def yX2_take : MethodName := ⟨RX2, "take", "(LTubSteps$Spa;)V"⟩
abbrev cX2_hasBather : ByteArray := prog_4_method_3_code
def yX2_hasBather : MethodName := ⟨RX2, "hasBather", "(I)Z"⟩
abbrev cX2_isFull : ByteArray := prog_4_method_4_code
def yX2_isFull : MethodName := ⟨RX2, "isFull", "()Z"⟩
abbrev cX2_addBather : ByteArray := prog_4_method_5_code
def yX2_addBather : MethodName := ⟨RX2, "addBather", "(IIII)I"⟩
abbrev cX2_rowOf : ByteArray := prog_4_method_6_code
def yX2_rowOf : MethodName := ⟨RX2, "rowOf", "(I)[I"⟩
abbrev cX2_changePlaces : ByteArray := prog_4_method_7_code
def yX2_changePlaces : MethodName := ⟨RX2, "changePlaces", "(II)V"⟩
abbrev cX2_scentIn : ByteArray := prog_4_method_8_code
def yX2_scentIn : MethodName := ⟨RX2, "scentIn", "(II)I"⟩
abbrev cX2_setScent : ByteArray := prog_4_method_9_code
def yX2_setScent : MethodName := ⟨RX2, "setScent", "(III)V"⟩
abbrev cX2_scentsIn : ByteArray := prog_4_method_10_code
def yX2_scentsIn : MethodName := ⟨RX2, "scentsIn", "(I)I"⟩
abbrev cX2_pullPlug : ByteArray := prog_4_method_11_code
def yX2_pullPlug : MethodName := ⟨RX2, "pullPlug", "(I)V"⟩
abbrev cX2_nextDraw : ByteArray := prog_4_method_12_code
def yX2_nextDraw : MethodName := ⟨RX2, "nextDraw", "()I"⟩
abbrev cX2_passHours : ByteArray := prog_4_method_13_code
def yX2_passHours : MethodName := ⟨RX2, "passHours", "(I)V"⟩
abbrev cX2_passHour : ByteArray := prog_4_method_14_code
def yX2_passHour : MethodName := ⟨RX2, "passHour", "()V"⟩
abbrev cX2_stepFurther : ByteArray := prog_4_method_15_code
def yX2_stepFurther : MethodName := ⟨RX2, "stepFurther", "(I)I"⟩
abbrev cX2_letWaterDown : ByteArray := prog_4_method_16_code
def yX2_letWaterDown : MethodName := ⟨RX2, "letWaterDown", "()V"⟩
abbrev cX2_isHere : ByteArray := prog_4_method_17_code
def yX2_isHere : MethodName := ⟨RX2, "isHere", "(I)Z"⟩
abbrev cX2_bathe : ByteArray := prog_4_method_18_code
def yX2_bathe : MethodName := ⟨RX2, "bathe", "(I)V"⟩
abbrev cX2_addsOf : ByteArray := prog_4_method_19_code
def yX2_addsOf : MethodName := ⟨RX2, "addsOf", "(I)I"⟩
abbrev cX2_smelledBy : ByteArray := prog_4_method_20_code
def yX2_smelledBy : MethodName := ⟨RX2, "smelledBy", "(I)I"⟩
abbrev cX2_whoIsIn : ByteArray := prog_4_method_21_code
def yX2_whoIsIn : MethodName := ⟨RX2, "whoIsIn", "(I)I"⟩
abbrev cX2_whoKnow : ByteArray := prog_4_method_22_code
def yX2_whoKnow : MethodName := ⟨RX2, "whoKnow", "(I)I"⟩
abbrev cX2_whoKnowAll : ByteArray := prog_4_method_23_code
def yX2_whoKnowAll : MethodName := ⟨RX2, "whoKnowAll", "()I"⟩
abbrev cX2_whoAreUnknown : ByteArray := prog_4_method_24_code
def yX2_whoAreUnknown : MethodName := ⟨RX2, "whoAreUnknown", "()I"⟩
abbrev cX2_knownPairs : ByteArray := prog_4_method_25_code
def yX2_knownPairs : MethodName := ⟨RX2, "knownPairs", "()I"⟩
abbrev cX2_tubsBelow : ByteArray := prog_4_method_26_code
def yX2_tubsBelow : MethodName := ⟨RX2, "tubsBelow", "(I)I"⟩
abbrev cX2_emptyTubs : ByteArray := prog_4_method_27_code
def yX2_emptyTubs : MethodName := ⟨RX2, "emptyTubs", "()I"⟩
abbrev cX2_allWarmth : ByteArray := prog_4_method_28_code
def yX2_allWarmth : MethodName := ⟨RX2, "allWarmth", "()I"⟩
abbrev cX2_allScents : ByteArray := prog_4_method_29_code
def yX2_allScents : MethodName := ⟨RX2, "allScents", "()I"⟩
abbrev cX2_heldSpots : ByteArray := prog_4_method_30_code
def yX2_heldSpots : MethodName := ⟨RX2, "heldSpots", "()I"⟩
def RX3 : String := "TubSteps$TextReader"
def TX3 : u_T := fun k => match k with
  | 0 => ("TubSteps$TextReader", "bytes", "[B", false)
  | 1 => ("TubSteps$TextReader", "length", "I", false)
  | 2 => ("TubSteps$TextReader", "token", "I", false)
  | 3 => ("TubSteps$TextReader", "start", "I", false)
  | 4 => ("TubSteps$TextReader", "end", "I", false)
  | _ => ("TubSteps$TextReader", "value", "I", false)
def tyX3 : Nat → FieldType := fun k => match k with
  | 0 => .array .byte
  | 1 => .int
  | 2 => .int
  | 3 => .int
  | 4 => .int
  | _ => .int
abbrev wsX30 : List Cond := u_ws RX3 TX3 6
theorem nmX3 : ∀ a, a < 6 → ∀ b, b < 6 → a ≠ b → (TX3 a).2.1 ≠ (TX3 b).2.1 := by decide +kernel
theorem tyX3_ok : ∀ k, k < 6 → parseFieldDescriptor (TX3 k).2.2.1 = some (tyX3 k) := by decide +kernel
abbrev cX3_init : ByteArray := prog_5_method_1_code
def yX3_init : MethodName := ⟨RX3, "<init>", "()V"⟩
abbrev cX3_readText : ByteArray := prog_5_method_2_code
def yX3_readText : MethodName := ⟨RX3, "readText", "([BILTubSteps$Spa;)I"⟩
abbrev cX3_readItem : ByteArray := prog_5_method_3_code
def yX3_readItem : MethodName := ⟨RX3, "readItem", "(LTubSteps$Spa;)Z"⟩
abbrev cX3_readBather : ByteArray := prog_5_method_4_code
def yX3_readBather : MethodName := ⟨RX3, "readBather", "(LTubSteps$Spa;I)Z"⟩
abbrev cX3_readTub : ByteArray := prog_5_method_5_code
def yX3_readTub : MethodName := ⟨RX3, "readTub", "(LTubSteps$Spa;)Z"⟩
abbrev cX3_kindAtHand : ByteArray := prog_5_method_6_code
def yX3_kindAtHand : MethodName := ⟨RX3, "kindAtHand", "()I"⟩
abbrev cX3_kindWord : ByteArray := prog_5_method_7_code
def yX3_kindWord : MethodName := ⟨RX3, "kindWord", "(I)Ljava/lang/String;"⟩
abbrev cX3_isAtHand : ByteArray := prog_5_method_8_code
def yX3_isAtHand : MethodName := ⟨RX3, "isAtHand", "(Ljava/lang/String;)Z"⟩
abbrev cX3_passWord : ByteArray := prog_5_method_9_code
def yX3_passWord : MethodName := ⟨RX3, "passWord", "(Ljava/lang/String;)Z"⟩
abbrev cX3_passNumber : ByteArray := prog_5_method_10_code
def yX3_passNumber : MethodName := ⟨RX3, "passNumber", "(I)I"⟩
abbrev cX3_readToken : ByteArray := prog_5_method_11_code
def yX3_readToken : MethodName := ⟨RX3, "readToken", "()V"⟩
abbrev cX3_byteAt : ByteArray := prog_5_method_12_code
def yX3_byteAt : MethodName := ⟨RX3, "byteAt", "(I)I"⟩
abbrev cX3_isLetter : ByteArray := prog_5_method_13_code
def yX3_isLetter : MethodName := ⟨RX3, "isLetter", "(I)Z"⟩
abbrev cX3_isDigit : ByteArray := prog_5_method_14_code
def yX3_isDigit : MethodName := ⟨RX3, "isDigit", "(I)Z"⟩
def RX4 : String := "TubSteps"
def TX4 : u_T := fun k => match k with
  | 0 => ("TubSteps", "spa", "LTubSteps$Spa;", true)
  | 1 => ("TubSteps", "kept", "LTubSteps$Spa;", true)
  | 2 => ("TubSteps", "draft", "LTubSteps$Spa;", true)
  | 3 => ("TubSteps", "sheets", "[LTubSteps$Sheet;", true)
  | 4 => ("TubSteps", "tape", "[B", true)
  | 5 => ("TubSteps", "reader", "LTubSteps$TextReader;", true)
  | 6 => ("TubSteps", "found", "[I", true)
  | 7 => ("TubSteps", "tapeLength", "I", false)
  | _ => ("TubSteps", "hasKept", "Z", false)
def tyX4 : Nat → FieldType := fun k => match k with
  | 0 => .object "TubSteps$Spa"
  | 1 => .object "TubSteps$Spa"
  | 2 => .object "TubSteps$Spa"
  | 3 => .array (.object "TubSteps$Sheet")
  | 4 => .array .byte
  | 5 => .object "TubSteps$TextReader"
  | 6 => .array .int
  | 7 => .int
  | _ => .boolean
abbrev wsX40 : List Cond := u_ws RX4 TX4 9
theorem nmX4 : ∀ a, a < 9 → ∀ b, b < 9 → a ≠ b → (TX4 a).2.1 ≠ (TX4 b).2.1 := by decide +kernel
theorem tyX4_ok : ∀ k, k < 9 → parseFieldDescriptor (TX4 k).2.2.1 = some (tyX4 k) := by decide +kernel
abbrev cX4_init : ByteArray := prog_1_method_1_code
def yX4_init : MethodName := ⟨RX4, "<init>", "()V"⟩
abbrev cX4_warm : ByteArray := prog_1_method_2_code
def yX4_warm : MethodName := ⟨RX4, "warm", "(II)I"⟩
abbrev cX4_scent : ByteArray := prog_1_method_3_code
def yX4_scent : MethodName := ⟨RX4, "scent", "(III)I"⟩
abbrev cX4_tub : ByteArray := prog_1_method_4_code
def yX4_tub : MethodName := ⟨RX4, "tub", "(II)I"⟩
abbrev cX4_fresh : ByteArray := prog_1_method_5_code
def yX4_fresh : MethodName := ⟨RX4, "fresh", "(I)I"⟩
abbrev cX4_plug : ByteArray := prog_1_method_6_code
def yX4_plug : MethodName := ⟨RX4, "plug", "(I)I"⟩
abbrev cX4_bather : ByteArray := prog_1_method_7_code
def yX4_bather : MethodName := ⟨RX4, "bather", "(II)I"⟩
abbrev cX4_of : ByteArray := prog_1_method_8_code
def yX4_of : MethodName := ⟨RX4, "of", "(II)I"⟩
abbrev cX4_change : ByteArray := prog_1_method_9_code
def yX4_change : MethodName := ⟨RX4, "change", "(III)I"⟩
abbrev cX4_swap : ByteArray := prog_1_method_10_code
def yX4_swap : MethodName := ⟨RX4, "swap", "(II)I"⟩
abbrev cX4_go : ByteArray := prog_1_method_11_code
def yX4_go : MethodName := ⟨RX4, "go", "(I)I"⟩
abbrev cX4_now : ByteArray := prog_1_method_12_code
def yX4_now : MethodName := ⟨RX4, "now", "(I)I"⟩
abbrev cX4_ahead : ByteArray := prog_1_method_13_code
def yX4_ahead : MethodName := ⟨RX4, "ahead", "(III)I"⟩
abbrev cX4_knows : ByteArray := prog_1_method_14_code
def yX4_knows : MethodName := ⟨RX4, "knows", "(II)I"⟩
abbrev cX4_when : ByteArray := prog_1_method_15_code
def yX4_when : MethodName := ⟨RX4, "when", "(II)I"⟩
abbrev cX4_cold : ByteArray := prog_1_method_16_code
def yX4_cold : MethodName := ⟨RX4, "cold", "(II)I"⟩
abbrev cX4_left : ByteArray := prog_1_method_17_code
def yX4_left : MethodName := ⟨RX4, "left", "(II)I"⟩
abbrev cX4_needed : ByteArray := prog_1_method_18_code
def yX4_needed : MethodName := ⟨RX4, "needed", "(II)I"⟩
abbrev cX4_swapFor : ByteArray := prog_1_method_19_code
def yX4_swapFor : MethodName := ⟨RX4, "swapFor", "(II)I"⟩
abbrev cX4_seat : ByteArray := prog_1_method_20_code
def yX4_seat : MethodName := ⟨RX4, "seat", "(II)I"⟩
abbrev cX4_kindFor : ByteArray := prog_1_method_21_code
def yX4_kindFor : MethodName := ⟨RX4, "kindFor", "(II)I"⟩
abbrev cX4_freshFor : ByteArray := prog_1_method_22_code
def yX4_freshFor : MethodName := ⟨RX4, "freshFor", "(II)I"⟩
abbrev cX4_hides : ByteArray := prog_1_method_23_code
def yX4_hides : MethodName := ⟨RX4, "hides", "(IIII)I"⟩
abbrev cX4_leave : ByteArray := prog_1_method_24_code
def yX4_leave : MethodName := ⟨RX4, "leave", "(II)I"⟩
abbrev cX4_plugFor : ByteArray := prog_1_method_25_code
def yX4_plugFor : MethodName := ⟨RX4, "plugFor", "(II)I"⟩
abbrev cX4_fits : ByteArray := prog_1_method_26_code
def yX4_fits : MethodName := ⟨RX4, "fits", "(II)I"⟩
abbrev cX4_kinds : ByteArray := prog_1_method_27_code
def yX4_kinds : MethodName := ⟨RX4, "kinds", "(II)I"⟩
abbrev cX4_plugs : ByteArray := prog_1_method_28_code
def yX4_plugs : MethodName := ⟨RX4, "plugs", "(I)I"⟩
abbrev cX4_odds : ByteArray := prog_1_method_29_code
def yX4_odds : MethodName := ⟨RX4, "odds", "(II)J"⟩
abbrev cX4_seed : ByteArray := prog_1_method_30_code
def yX4_seed : MethodName := ⟨RX4, "seed", "(I)I"⟩
abbrev cX4_feed : ByteArray := prog_1_method_31_code
def yX4_feed : MethodName := ⟨RX4, "feed", "(II)I"⟩
abbrev cX4_wipe : ByteArray := prog_1_method_32_code
def yX4_wipe : MethodName := ⟨RX4, "wipe", "()I"⟩
abbrev cX4_text : ByteArray := prog_1_method_33_code
def yX4_text : MethodName := ⟨RX4, "text", "()I"⟩
abbrev cX4_hold : ByteArray := prog_1_method_34_code
def yX4_hold : MethodName := ⟨RX4, "hold", "(II)I"⟩
abbrev cX4_as : ByteArray := prog_1_method_35_code
def yX4_as : MethodName := ⟨RX4, "as", "(II)I"⟩
abbrev cX4_sheet : ByteArray := prog_1_method_36_code
def yX4_sheet : MethodName := ⟨RX4, "sheet", "(III)I"⟩
abbrev cX4_write : ByteArray := prog_1_method_37_code
def yX4_write : MethodName := ⟨RX4, "write", "(III)I"⟩
abbrev cX4_copy : ByteArray := prog_1_method_38_code
def yX4_copy : MethodName := ⟨RX4, "copy", "(IIIII)I"⟩
abbrev cX4_load : ByteArray := prog_1_method_39_code
def yX4_load : MethodName := ⟨RX4, "load", "(I)I"⟩
abbrev cX4_judge : ByteArray := prog_1_method_40_code
def yX4_judge : MethodName := ⟨RX4, "judge", "(I)I"⟩
abbrev cX4_image : ByteArray := prog_1_method_41_code
def yX4_image : MethodName := ⟨RX4, "image", "()I"⟩
abbrev cX4_undo : ByteArray := prog_1_method_42_code
def yX4_undo : MethodName := ⟨RX4, "undo", "()I"⟩
abbrev cX4_tear : ByteArray := prog_1_method_43_code
def yX4_tear : MethodName := ⟨RX4, "tear", "()I"⟩
abbrev cX4_count : ByteArray := prog_1_method_44_code
def yX4_count : MethodName := ⟨RX4, "count", "(I)I"⟩
abbrev cX4_status : ByteArray := prog_1_method_45_code
def yX4_status : MethodName := ⟨RX4, "status", "(I)I"⟩
abbrev cX4_finding : ByteArray := prog_1_method_46_code
def yX4_finding : MethodName := ⟨RX4, "finding", "(I)I"⟩
abbrev cX4_isWithin : ByteArray := prog_1_method_47_code
def yX4_isWithin : MethodName := ⟨RX4, "isWithin", "(II)Z"⟩
abbrev cX4_isTub : ByteArray := prog_1_method_48_code
def yX4_isTub : MethodName := ⟨RX4, "isTub", "(I)Z"⟩
abbrev cX4_isScent : ByteArray := prog_1_method_49_code
def yX4_isScent : MethodName := ⟨RX4, "isScent", "(I)Z"⟩
abbrev cX4_isSpot : ByteArray := prog_1_method_50_code
def yX4_isSpot : MethodName := ⟨RX4, "isSpot", "(I)Z"⟩
abbrev cX4_isSheet : ByteArray := prog_1_method_51_code
def yX4_isSheet : MethodName := ⟨RX4, "isSheet", "(I)Z"⟩
abbrev cX4_mostOf : ByteArray := prog_1_method_52_code
def yX4_mostOf : MethodName := ⟨RX4, "mostOf", "(I)I"⟩
abbrev cX4_greatestCommonPart : ByteArray := prog_1_method_53_code
def yX4_greatestCommonPart : MethodName := ⟨RX4, "greatestCommonPart", "(II)I"⟩
abbrev cX4_lackOf : ByteArray := prog_1_method_54_code
def yX4_lackOf : MethodName := ⟨RX4, "lackOf", "(I)I"⟩
abbrev cX4_hoursUntilKnown : ByteArray := prog_1_method_55_code
def yX4_hoursUntilKnown : MethodName := ⟨RX4, "hoursUntilKnown", "(III)I"⟩
abbrev cX4_isLearned : ByteArray := prog_1_method_56_code
def yX4_isLearned : MethodName := ⟨RX4, "isLearned", "(II)Z"⟩
abbrev cX4_comesOutAs : ByteArray := prog_1_method_57_code
def yX4_comesOutAs : MethodName := ⟨RX4, "comesOutAs", "(LTubSteps$Sheet;)Z"⟩
def RX5 : String := "TubStepsModel"
def TX5 : u_T := fun k => match k with
  | 0 => ("TubStepsModel", "s", "[I", true)
  | 1 => ("TubStepsModel", "kept", "[I", true)
  | 2 => ("TubStepsModel", "before", "[I", true)
  | 3 => ("TubStepsModel", "aside", "[I", true)
  | 4 => ("TubStepsModel", "isKept", "Z", false)
  | 5 => ("TubStepsModel", "findings", "[I", true)
  | 6 => ("TubStepsModel", "tape", "[I", true)
  | 7 => ("TubStepsModel", "taped", "I", false)
  | 8 => ("TubStepsModel", "bitsOf", "[I", true)
  | 9 => ("TubStepsModel", "sizes", "[I", true)
  | 10 => ("TubStepsModel", "numbers", "[I", true)
  | 11 => ("TubStepsModel", "token", "I", false)
  | 12 => ("TubStepsModel", "from", "I", false)
  | 13 => ("TubStepsModel", "to", "I", false)
  | 14 => ("TubStepsModel", "value", "I", false)
  | _ => ("TubStepsModel", "faultAt", "I", false)
def tyX5 : Nat → FieldType := fun k => match k with
  | 0 => .array .int
  | 1 => .array .int
  | 2 => .array .int
  | 3 => .array .int
  | 4 => .boolean
  | 5 => .array .int
  | 6 => .array .int
  | 7 => .int
  | 8 => .array .int
  | 9 => .array .int
  | 10 => .array .int
  | 11 => .int
  | 12 => .int
  | 13 => .int
  | 14 => .int
  | _ => .int
abbrev wsX50 : List Cond := u_ws RX5 TX5 16
theorem nmX5 : ∀ a, a < 16 → ∀ b, b < 16 → a ≠ b → (TX5 a).2.1 ≠ (TX5 b).2.1 := by decide +kernel
theorem tyX5_ok : ∀ k, k < 16 → parseFieldDescriptor (TX5 k).2.2.1 = some (tyX5 k) := by decide +kernel
abbrev cX5_init : ByteArray := prog_7_method_1_code
def yX5_init : MethodName := ⟨RX5, "<init>", "()V"⟩
abbrev cX5_isIn : ByteArray := prog_7_method_2_code
def yX5_isIn : MethodName := ⟨RX5, "isIn", "(JJJ)Z"⟩
abbrev cX5_finds : ByteArray := prog_7_method_3_code
def yX5_finds : MethodName := ⟨RX5, "finds", "(I)I"⟩
abbrev cX5_becomes : ByteArray := prog_7_method_4_code
def yX5_becomes : MethodName := ⟨RX5, "becomes", "(II)I"⟩
abbrev cX5_copyRow : ByteArray := prog_7_method_5_code
def yX5_copyRow : MethodName := ⟨RX5, "copyRow", "([I[I)V"⟩
abbrev cX5_isTub : ByteArray := prog_7_method_6_code
def yX5_isTub : MethodName := ⟨RX5, "isTub", "(I)Z"⟩
abbrev cX5_isScent : ByteArray := prog_7_method_7_code
def yX5_isScent : MethodName := ⟨RX5, "isScent", "(I)Z"⟩
abbrev cX5_isBather : ByteArray := prog_7_method_8_code
def yX5_isBather : MethodName := ⟨RX5, "isBather", "(I)Z"⟩
abbrev cX5_its : ByteArray := prog_7_method_9_code
def yX5_its : MethodName := ⟨RX5, "its", "(II)I"⟩
abbrev cX5_orNone : ByteArray := prog_7_method_10_code
def yX5_orNone : MethodName := ⟨RX5, "orNone", "(I)I"⟩
abbrev cX5_many : ByteArray := prog_7_method_11_code
def yX5_many : MethodName := ⟨RX5, "many", "(I)I"⟩
abbrev cX5_warm : ByteArray := prog_7_method_12_code
def yX5_warm : MethodName := ⟨RX5, "warm", "(II)I"⟩
abbrev cX5_placeOf : ByteArray := prog_7_method_13_code
def yX5_placeOf : MethodName := ⟨RX5, "placeOf", "(II)I"⟩
abbrev cX5_scent : ByteArray := prog_7_method_14_code
def yX5_scent : MethodName := ⟨RX5, "scent", "(III)I"⟩
abbrev cX5_allIn : ByteArray := prog_7_method_15_code
def yX5_allIn : MethodName := ⟨RX5, "allIn", "(I)I"⟩
abbrev cX5_there : ByteArray := prog_7_method_16_code
def yX5_there : MethodName := ⟨RX5, "there", "(I)I"⟩
abbrev cX5_tub : ByteArray := prog_7_method_17_code
def yX5_tub : MethodName := ⟨RX5, "tub", "(II)I"⟩
abbrev cX5_fresh : ByteArray := prog_7_method_18_code
def yX5_fresh : MethodName := ⟨RX5, "fresh", "(I)I"⟩
abbrev cX5_pulls : ByteArray := prog_7_method_19_code
def yX5_pulls : MethodName := ⟨RX5, "pulls", "(I)I"⟩
abbrev cX5_plug : ByteArray := prog_7_method_20_code
def yX5_plug : MethodName := ⟨RX5, "plug", "(I)I"⟩
abbrev cX5_comes : ByteArray := prog_7_method_21_code
def yX5_comes : MethodName := ⟨RX5, "comes", "(IIII)V"⟩
abbrev cX5_bather : ByteArray := prog_7_method_22_code
def yX5_bather : MethodName := ⟨RX5, "bather", "(II)I"⟩
abbrev cX5_adds : ByteArray := prog_7_method_23_code
def yX5_adds : MethodName := ⟨RX5, "adds", "(I)I"⟩
abbrev cX5_cools : ByteArray := prog_7_method_24_code
def yX5_cools : MethodName := ⟨RX5, "cools", "(I)I"⟩
abbrev cX5_nose : ByteArray := prog_7_method_25_code
def yX5_nose : MethodName := ⟨RX5, "nose", "(I)I"⟩
abbrev cX5_smells : ByteArray := prog_7_method_26_code
def yX5_smells : MethodName := ⟨RX5, "smells", "(I)I"⟩
abbrev cX5_of : ByteArray := prog_7_method_27_code
def yX5_of : MethodName := ⟨RX5, "of", "(II)I"⟩
abbrev cX5_greatestOf : ByteArray := prog_7_method_28_code
def yX5_greatestOf : MethodName := ⟨RX5, "greatestOf", "(I)I"⟩
abbrev cX5_change : ByteArray := prog_7_method_29_code
def yX5_change : MethodName := ⟨RX5, "change", "(III)I"⟩
abbrev cX5_swaps : ByteArray := prog_7_method_30_code
def yX5_swaps : MethodName := ⟨RX5, "swaps", "(II)I"⟩
abbrev cX5_swap : ByteArray := prog_7_method_31_code
def yX5_swap : MethodName := ⟨RX5, "swap", "(II)I"⟩
abbrev cX5_flows : ByteArray := prog_7_method_32_code
def yX5_flows : MethodName := ⟨RX5, "flows", "()V"⟩
abbrev cX5_hourBut : ByteArray := prog_7_method_33_code
def yX5_hourBut : MethodName := ⟨RX5, "hourBut", "(I)J"⟩
abbrev cX5_hours : ByteArray := prog_7_method_34_code
def yX5_hours : MethodName := ⟨RX5, "hours", "(I)V"⟩
abbrev cX5_go : ByteArray := prog_7_method_35_code
def yX5_go : MethodName := ⟨RX5, "go", "(I)I"⟩
abbrev cX5_sumOf : ByteArray := prog_7_method_36_code
def yX5_sumOf : MethodName := ⟨RX5, "sumOf", "(II)I"⟩
abbrev cX5_coldTubs : ByteArray := prog_7_method_37_code
def yX5_coldTubs : MethodName := ⟨RX5, "coldTubs", "()I"⟩
abbrev cX5_knowing : ByteArray := prog_7_method_38_code
def yX5_knowing : MethodName := ⟨RX5, "knowing", "()I"⟩
abbrev cX5_unknown : ByteArray := prog_7_method_39_code
def yX5_unknown : MethodName := ⟨RX5, "unknown", "()I"⟩
abbrev cX5_now : ByteArray := prog_7_method_40_code
def yX5_now : MethodName := ⟨RX5, "now", "(I)I"⟩
abbrev cX5_ahead : ByteArray := prog_7_method_41_code
def yX5_ahead : MethodName := ⟨RX5, "ahead", "(III)I"⟩
abbrev cX5_knownIn : ByteArray := prog_7_method_42_code
def yX5_knownIn : MethodName := ⟨RX5, "knownIn", "(II)I"⟩
abbrev cX5_knows : ByteArray := prog_7_method_43_code
def yX5_knows : MethodName := ⟨RX5, "knows", "(II)I"⟩
abbrev cX5_soonest : ByteArray := prog_7_method_44_code
def yX5_soonest : MethodName := ⟨RX5, "soonest", "(II)I"⟩
abbrev cX5_when : ByteArray := prog_7_method_45_code
def yX5_when : MethodName := ⟨RX5, "when", "(II)I"⟩
abbrev cX5_cold : ByteArray := prog_7_method_46_code
def yX5_cold : MethodName := ⟨RX5, "cold", "(II)I"⟩
abbrev cX5_leftOf : ByteArray := prog_7_method_47_code
def yX5_leftOf : MethodName := ⟨RX5, "leftOf", "(II)I"⟩
abbrev cX5_left : ByteArray := prog_7_method_48_code
def yX5_left : MethodName := ⟨RX5, "left", "(II)I"⟩
abbrev cX5_needed : ByteArray := prog_7_method_49_code
def yX5_needed : MethodName := ⟨RX5, "needed", "(II)I"⟩
abbrev cX5_swapFor : ByteArray := prog_7_method_50_code
def yX5_swapFor : MethodName := ⟨RX5, "swapFor", "(II)I"⟩
abbrev cX5_seat : ByteArray := prog_7_method_51_code
def yX5_seat : MethodName := ⟨RX5, "seat", "(II)I"⟩
abbrev cX5_kindFor : ByteArray := prog_7_method_52_code
def yX5_kindFor : MethodName := ⟨RX5, "kindFor", "(II)I"⟩
abbrev cX5_coldest : ByteArray := prog_7_method_53_code
def yX5_coldest : MethodName := ⟨RX5, "coldest", "()I"⟩
abbrev cX5_freshFor : ByteArray := prog_7_method_54_code
def yX5_freshFor : MethodName := ⟨RX5, "freshFor", "(II)I"⟩
abbrev cX5_isHidden : ByteArray := prog_7_method_55_code
def yX5_isHidden : MethodName := ⟨RX5, "isHidden", "(III)Z"⟩
abbrev cX5_hides : ByteArray := prog_7_method_56_code
def yX5_hides : MethodName := ⟨RX5, "hides", "(IIII)I"⟩
abbrev cX5_leave : ByteArray := prog_7_method_57_code
def yX5_leave : MethodName := ⟨RX5, "leave", "(II)I"⟩
abbrev cX5_plugFor : ByteArray := prog_7_method_58_code
def yX5_plugFor : MethodName := ⟨RX5, "plugFor", "(II)I"⟩
abbrev cX5_isTold : ByteArray := prog_7_method_59_code
def yX5_isTold : MethodName := ⟨RX5, "isTold", "(I)Z"⟩
abbrev cX5_couldBe : ByteArray := prog_7_method_60_code
def yX5_couldBe : MethodName := ⟨RX5, "couldBe", "(III)I"⟩
abbrev cX5_wantsFor : ByteArray := prog_7_method_61_code
def yX5_wantsFor : MethodName := ⟨RX5, "wantsFor", "(II)I"⟩
abbrev cX5_fits : ByteArray := prog_7_method_62_code
def yX5_fits : MethodName := ⟨RX5, "fits", "(II)I"⟩
abbrev cX5_kinds : ByteArray := prog_7_method_63_code
def yX5_kinds : MethodName := ⟨RX5, "kinds", "(II)I"⟩
abbrev cX5_plugs : ByteArray := prog_7_method_64_code
def yX5_plugs : MethodName := ⟨RX5, "plugs", "(I)I"⟩
abbrev cX5_odds : ByteArray := prog_7_method_65_code
def yX5_odds : MethodName := ⟨RX5, "odds", "(II)J"⟩
abbrev cX5_seed : ByteArray := prog_7_method_66_code
def yX5_seed : MethodName := ⟨RX5, "seed", "(I)I"⟩
abbrev cX5_feed : ByteArray := prog_7_method_67_code
def yX5_feed : MethodName := ⟨RX5, "feed", "(II)I"⟩
abbrev cX5_wipe : ByteArray := prog_7_method_68_code
def yX5_wipe : MethodName := ⟨RX5, "wipe", "()I"⟩
abbrev cX5_isLetter : ByteArray := prog_7_method_69_code
def yX5_isLetter : MethodName := ⟨RX5, "isLetter", "(I)Z"⟩
abbrev cX5_isDigit : ByteArray := prog_7_method_70_code
def yX5_isDigit : MethodName := ⟨RX5, "isDigit", "(I)Z"⟩
abbrev cX5_byteAt : ByteArray := prog_7_method_71_code
def yX5_byteAt : MethodName := ⟨RX5, "byteAt", "(I)I"⟩
abbrev cX5_nextToken : ByteArray := prog_7_method_72_code
def yX5_nextToken : MethodName := ⟨RX5, "nextToken", "()V"⟩
abbrev cX5_has3 : ByteArray := prog_7_method_73_code
def yX5_has3 : MethodName := ⟨RX5, "has3", "(IIII)Z"⟩
abbrev cX5_isWord : ByteArray := prog_7_method_74_code
def yX5_isWord : MethodName := ⟨RX5, "isWord", "(I)Z"⟩
abbrev cX5_fails : ByteArray := prog_7_method_75_code
def yX5_fails : MethodName := ⟨RX5, "fails", "()Z"⟩
abbrev cX5_isFour : ByteArray := prog_7_method_76_code
def yX5_isFour : MethodName := ⟨RX5, "isFour", "(IIII)Z"⟩
abbrev cX5_isFive : ByteArray := prog_7_method_77_code
def yX5_isFive : MethodName := ⟨RX5, "isFive", "(IIIII)Z"⟩
abbrev cX5_isSix : ByteArray := prog_7_method_78_code
def yX5_isSix : MethodName := ⟨RX5, "isSix", "(IIIIII)Z"⟩
abbrev cX5_isNumber : ByteArray := prog_7_method_79_code
def yX5_isNumber : MethodName := ⟨RX5, "isNumber", "(II)Z"⟩
abbrev cX5_kindHere : ByteArray := prog_7_method_80_code
def yX5_kindHere : MethodName := ⟨RX5, "kindHere", "()I"⟩
abbrev cX5_isTwo : ByteArray := prog_7_method_81_code
def yX5_isTwo : MethodName := ⟨RX5, "isTwo", "(II)Z"⟩
abbrev cX5_perhaps : ByteArray := prog_7_method_82_code
def yX5_perhaps : MethodName := ⟨RX5, "perhaps", "(ZI)Z"⟩
abbrev cX5_batherHere : ByteArray := prog_7_method_83_code
def yX5_batherHere : MethodName := ⟨RX5, "batherHere", "(I)Z"⟩
abbrev cX5_tubHere : ByteArray := prog_7_method_84_code
def yX5_tubHere : MethodName := ⟨RX5, "tubHere", "()Z"⟩
abbrev cX5_freshHere : ByteArray := prog_7_method_85_code
def yX5_freshHere : MethodName := ⟨RX5, "freshHere", "()Z"⟩
abbrev cX5_plugHere : ByteArray := prog_7_method_86_code
def yX5_plugHere : MethodName := ⟨RX5, "plugHere", "()Z"⟩
abbrev cX5_itemHere : ByteArray := prog_7_method_87_code
def yX5_itemHere : MethodName := ⟨RX5, "itemHere", "()Z"⟩
abbrev cX5_text : ByteArray := prog_7_method_88_code
def yX5_text : MethodName := ⟨RX5, "text", "()I"⟩
abbrev cX5_hold : ByteArray := prog_7_method_89_code
def yX5_hold : MethodName := ⟨RX5, "hold", "(II)I"⟩
abbrev cX5_isUnder : ByteArray := prog_7_method_90_code
def yX5_isUnder : MethodName := ⟨RX5, "isUnder", "(II)Z"⟩
abbrev cX5_as : ByteArray := prog_7_method_91_code
def yX5_as : MethodName := ⟨RX5, "as", "(II)I"⟩
abbrev cX5_isSheet : ByteArray := prog_7_method_92_code
def yX5_isSheet : MethodName := ⟨RX5, "isSheet", "(I)Z"⟩
abbrev cX5_sheet : ByteArray := prog_7_method_93_code
def yX5_sheet : MethodName := ⟨RX5, "sheet", "(III)I"⟩
abbrev cX5_write : ByteArray := prog_7_method_94_code
def yX5_write : MethodName := ⟨RX5, "write", "(III)I"⟩
abbrev cX5_copy : ByteArray := prog_7_method_95_code
def yX5_copy : MethodName := ⟨RX5, "copy", "(IIIII)I"⟩
abbrev cX5_wants : ByteArray := prog_7_method_96_code
def yX5_wants : MethodName := ⟨RX5, "wants", "(I)I"⟩
abbrev cX5_load : ByteArray := prog_7_method_97_code
def yX5_load : MethodName := ⟨RX5, "load", "(I)I"⟩
abbrev cX5_judge : ByteArray := prog_7_method_98_code
def yX5_judge : MethodName := ⟨RX5, "judge", "(I)I"⟩
abbrev cX5_image : ByteArray := prog_7_method_99_code
def yX5_image : MethodName := ⟨RX5, "image", "()I"⟩
abbrev cX5_undo : ByteArray := prog_7_method_100_code
def yX5_undo : MethodName := ⟨RX5, "undo", "()I"⟩
abbrev cX5_tear : ByteArray := prog_7_method_101_code
def yX5_tear : MethodName := ⟨RX5, "tear", "()I"⟩
abbrev cX5_count : ByteArray := prog_7_method_102_code
def yX5_count : MethodName := ⟨RX5, "count", "(I)I"⟩
abbrev cX5_status : ByteArray := prog_7_method_103_code
def yX5_status : MethodName := ⟨RX5, "status", "(I)I"⟩
def RJ6 : String := "java/lang/Integer"
abbrev cJ6_bitCount_0f7a4 : ByteArray := prog_8_method_49_code
def yJ6_bitCount_0f7a4 : MethodName := ⟨RJ6, "bitCount", "(I)I"⟩
def RJ9 : String := "java/lang/Math"
abbrev cJ9_max_7cf53 : ByteArray := prog_9_method_65_code
def yJ9_max_7cf53 : MethodName := ⟨RJ9, "max", "(II)I"⟩
abbrev cJ9_min_7cf53 : ByteArray := prog_9_method_69_code
def yJ9_min_7cf53 : MethodName := ⟨RJ9, "min", "(II)I"⟩
def RJ0 : String := "java/lang/String"
abbrev cJ0_length_8abf5 : ByteArray := prog_10_method_54_code
def yJ0_length_8abf5 : MethodName := ⟨RJ0, "length", "()I"⟩
abbrev cJ0_charAt_5068e : ByteArray := prog_10_method_56_code
def yJ0_charAt_5068e : MethodName := ⟨RJ0, "charAt", "(I)C"⟩
abbrev cJ0_coder_7d493 : ByteArray := prog_10_method_152_code
def yJ0_coder_7d493 : MethodName := ⟨RJ0, "coder", "()B"⟩
abbrev cJ0_isLatin1_aae02 : ByteArray := prog_10_method_154_code
def yJ0_isLatin1_aae02 : MethodName := ⟨RJ0, "isLatin1", "()Z"⟩
abbrev cJ0_checkIndex_df160 : ByteArray := prog_10_method_155_code
def yJ0_checkIndex_df160 : MethodName := ⟨RJ0, "checkIndex", "(II)V"⟩
def RJ1 : String := "java/lang/StringLatin1"
abbrev cJ1_charAt_3b067 : ByteArray := prog_11_method_2_code
def yJ1_charAt_3b067 : MethodName := ⟨RJ1, "charAt", "([BI)C"⟩
def RJ2 : String := "java/lang/StringUTF16"
abbrev cJ2_getChar_3b067 : ByteArray := prog_12_method_5_code
def yJ2_getChar_3b067 : MethodName := ⟨RJ2, "getChar", "([BI)C"⟩
abbrev cJ2_length_9d52b : ByteArray := prog_12_method_6_code
def yJ2_length_9d52b : MethodName := ⟨RJ2, "length", "([B)I"⟩
abbrev cJ2_charAt_3b067 : ByteArray := prog_12_method_83_code
def yJ2_charAt_3b067 : MethodName := ⟨RJ2, "charAt", "([BI)C"⟩
abbrev cJ2_checkIndex_2214a : ByteArray := prog_12_method_91_code
def yJ2_checkIndex_2214a : MethodName := ⟨RJ2, "checkIndex", "(I[B)V"⟩
def RJ10 : String := "java/lang/System"
def RJ3 : String := "jdk/internal/util/Preconditions"
abbrev cJ3_checkIndex_8e157 : ByteArray := prog_14_method_11_code
def yJ3_checkIndex_8e157 : MethodName := ⟨RJ3, "checkIndex", "(IILjava/util/function/BiFunction;)I"⟩
def RL : String := "TubStepsLaw"
abbrev cL_law : ByteArray := code
def yL_law : MethodName := ⟨RL, "law", "([I)Z"⟩
abbrev vwCl : List vw_C := [(RX1, TX1, 3), (RX2, TX2, 12), (RX3, TX3, 6), (RX4, TX4, 9), (RX5, TX5, 16)]
def rv_strB : List (List Int32) := [[100, 117, 99, 104, 101, 115, 115], [99, 108, 101, 114, 107], [115, 112, 121], [108, 97, 109, 112, 108, 105, 103, 104, 116, 101, 114], [115, 97, 100], [99, 111, 110, 115, 117, 108], [98, 97, 116, 104, 101, 114], [105, 110], [119, 105, 116, 104], [107, 110, 111, 119, 115], [116, 117, 98], [111, 102], [102, 114, 101, 115, 104], [112, 108, 117, 103]]
def rv_strW : List (Nat × String) := [(111, "duchess"), (113, "clerk"), (115, "spy"), (117, "lamplighter"), (119, "sad"), (121, "consul"), (123, "bather"), (82, "in"), (84, "with"), (86, "knows"), (52, "tub"), (96, "of"), (61, "fresh"), (72, "plug")]
def rv_above : List Int32 := [-1, 0, 0, 2, 3, 0, 1]
end
section
/-! THE ABSTRACT MACHINE: references are places of a world, arrays are lists; it steps through the bytecode of the tables -/
/-- a cell: an array (0 of ints, 1 of bytes, 2 of Sheets), or an object (its class in the tables, its fields) -/
abbrev rv_E : Type := (Nat × (List Int32 ⊕ List (Option Nat))) ⊕ (Nat × List Value)
abbrev rv_W : Type := List rv_E
abbrev rv_L : Type := List (Option Value)
abbrev rv_X : Type := Option Value × rv_W
/-- an instruction: itself, its length, two numbers, the place of its word, a constant, the locals that are dead ahead of it -/
abbrev rv_I : Type := Jvm.ClassFile.Instr × Nat × Nat × Nat × Nat × Int32 × List Nat
abbrev rv_C : Type := List (Nat × rv_I)
abbrev rv_G : Type := Nat → rv_L → List Value → rv_W → Option rv_X
abbrev rv_F : Type := Nat → List Value → rv_W → Option rv_X
def rv_tab {α : Type} (n : Nat) (f : Nat → α) : List α := (List.range n).map f
def rv_get : rv_L → Nat → Option Value
  | [], _ => none
  | x :: _, 0 => x
  | _ :: l, n + 1 => rv_get l n
def rv_clr1 (lv : rv_L) (j : Nat) : Option Value → rv_L
  | some (.long _) => lv.set j none
  | some (.double _) => lv.set j none
  | _ => lv
def rv_clr (lv : rv_L) : Nat → rv_L
  | 0 => lv
  | j + 1 => rv_clr1 lv j (rv_get lv j)
def rv_put (lv : rv_L) (i : Nat) (v : Value) : rv_L := (rv_clr lv i).set i (some v)
def rv_put2 (lv : rv_L) (i : Nat) (v : Value) : rv_L := ((rv_clr lv i).set i (some v)).set (i + 1) none
def rv_kill : List Nat → rv_L → rv_L
  | [], lv => lv
  | i :: is, lv => rv_kill is (lv.set i none)
def rv_ent : Nat → List Value → rv_L
  | n, [] => List.replicate n none
  | n, .long x :: vs => some (.long x) :: none :: rv_ent (n - 2) vs
  | n, .double x :: vs => some (.double x) :: none :: rv_ent (n - 2) vs
  | n, v :: vs => some v :: rv_ent (n - 1) vs
def rv_oi (o : Option Value) (K : Int32 → Option rv_X) : Option rv_X := match o with
  | some (.int x) => K x
  | _ => none
def rv_ol (o : Option Value) (K : Int64 → Option rv_X) : Option rv_X := match o with
  | some (.long x) => K x
  | _ => none
def rv_oa (o : Option Value) (K : Nat → Option rv_X) : Option rv_X := match o with
  | some (.ref x) => K x
  | _ => none
def rv_gi (lv : rv_L) (i : Nat) (K : Int32 → Option rv_X) : Option rv_X := rv_oi (rv_get lv i) K
def rv_gl (lv : rv_L) (i : Nat) (K : Int64 → Option rv_X) : Option rv_X := rv_ol (rv_get lv i) K
def rv_ga (lv : rv_L) (i : Nat) (K : Nat → Option rv_X) : Option rv_X := rv_oa (rv_get lv i) K
def rv_end (st : List Value) (o : Option rv_X) : Option rv_X := match st with
  | [] => o
  | _ => none
def rv_i1 (st : List Value) (K : Int32 → List Value → Option rv_X) : Option rv_X := match st with
  | .int x :: r => K x r
  | _ => none
def rv_i2 (st : List Value) (K : Int32 → Int32 → List Value → Option rv_X) : Option rv_X := match st with
  | .int y :: .int x :: r => K x y r
  | _ => none
def rv_l1 (st : List Value) (K : Int64 → List Value → Option rv_X) : Option rv_X := match st with
  | .long x :: r => K x r
  | _ => none
def rv_l2 (st : List Value) (K : Int64 → Int64 → List Value → Option rv_X) : Option rv_X := match st with
  | .long y :: .long x :: r => K x y r
  | _ => none
def rv_li (st : List Value) (K : Int64 → Int32 → List Value → Option rv_X) : Option rv_X := match st with
  | .int y :: .long x :: r => K x y r
  | _ => none
def rv_a1 (st : List Value) (K : Nat → List Value → Option rv_X) : Option rv_X := match st with
  | .ref x :: r => K x r
  | _ => none
def rv_ai (st : List Value) (K : Nat → Int32 → List Value → Option rv_X) : Option rv_X := match st with
  | .int i :: .ref x :: r => K x i r
  | _ => none
def rv_aii (st : List Value) (K : Nat → Int32 → Int32 → List Value → Option rv_X) : Option rv_X := match st with
  | .int v :: .int i :: .ref x :: r => K x i v r
  | _ => none
def rv_aa (st : List Value) (K : Nat → Nat → List Value → Option rv_X) : Option rv_X := match st with
  | .ref y :: .ref x :: r => K x y r
  | _ => none
def rv_iaR (st : List Value) (K : Nat → Int32 → List Value → Option rv_X) : Option rv_X := match st with
  | .int v :: .ref x :: r => K x v r
  | _ => none
def rv_v1 (st : List Value) (K : Value → List Value → Option rv_X) : Option rv_X := match st with
  | .int x :: r => K (.int x) r
  | .ref x :: r => K (.ref x) r
  | _ => none
def rv_v2 (st : List Value) (K : Value → Value → List Value → Option rv_X) : Option rv_X := match st with
  | .int y :: .int x :: r => K (.int x) (.int y) r
  | .int y :: .ref x :: r => K (.ref x) (.int y) r
  | _ => none
def rv_cp (st : List Value) (K : Nat → Int32 → Nat → Int32 → Int32 → List Value → Option rv_X) : Option rv_X := match st with
  | .int n :: .int dp :: .ref d :: .int sp :: .ref s :: r => K s sp d dp n r
  | _ => none
/-- what nobody writes: the bytes of the String constants, the row of the kinds -/
def rv_ix {α : Type} (xs : List α) (i : Int32) : Option α := if i < 0 then none else xs[i.toNatClampNeg]?
def rv_ints (w : rv_W) (a : Nat) : Option (List Int32) := match w[a]? with
  | some (.inl (0, .inl xs)) => some xs
  | _ => none
def rv_byts (w : rv_W) (a : Nat) : Option (List Int32) := match w[a]? with
  | some (.inl (1, .inl xs)) => some xs
  | _ => none
def rv_refs (w : rv_W) (a : Nat) : Option (List (Option Nat)) := match w[a]? with
  | some (.inl (2, .inr xs)) => some xs
  | _ => none
def rv_ldI (w : rv_W) (a : Nat) (i : Int32) : Option Int32 := (if a = 3000 then some rv_above else rv_ints w a).bind fun xs => rv_ix xs i
def rv_ldB (w : rv_W) (a : Nat) (i : Int32) : Option Int32 := (if 2000 ≤ a then rv_strB[a - 2000]? else rv_byts w a).bind fun xs => rv_ix xs i
def rv_ldQ (w : rv_W) (a : Nat) (i : Int32) : Option Nat := (rv_refs w a).bind fun xs => (rv_ix xs i).bind id
def rv_len (w : rv_W) (a : Nat) : Option Int32 := if 2000 ≤ a then (rv_strB[a - 2000]?).map (fun xs => Int32.ofNat xs.length) else match w[a]? with
  | some (.inl (0, .inl xs)) => some (Int32.ofNat xs.length)
  | some (.inl (1, .inl xs)) => some (Int32.ofNat xs.length)
  | some (.inl (2, .inr xs)) => some (Int32.ofNat xs.length)
  | _ => none
def rv_stI (w : rv_W) (a : Nat) (i x : Int32) : Option rv_W := (rv_ints w a).bind fun xs => (rv_ix xs i).bind fun _ => some (w.set a (.inl (0, .inl (xs.set i.toNatClampNeg x))))
def rv_stB (w : rv_W) (a : Nat) (i x : Int32) : Option rv_W := (rv_byts w a).bind fun xs => (rv_ix xs i).bind fun _ => some (w.set a (.inl (1, .inl (xs.set i.toNatClampNeg x.toInt8.toInt32))))
def rv_obj (w : rv_W) (a ci : Nat) : Option (List Value) := match w[a]? with
  | some (.inr (cj, fs)) => if cj = ci then some fs else none
  | _ => none
def rv_ldFI (w : rv_W) (a ci k : Nat) : Option Int32 := (rv_obj w a ci).bind fun fs => match fs[k]? with
  | some (.int x) => some x
  | _ => none
def rv_ldFR (w : rv_W) (a ci k : Nat) : Option Nat := (rv_obj w a ci).bind fun fs => match fs[k]? with
  | some (.ref x) => some x
  | _ => none
def rv_stF (w : rv_W) (a ci k : Nat) (v : Value) : Option rv_W := (rv_obj w a ci).bind fun fs => if k < fs.length then some (w.set a (.inr (ci, fs.set k v))) else none
def rv_cpy (w : rv_W) (s : Nat) (sp : Int32) (d : Nat) (dp n : Int32) : Option rv_W := (rv_ints w s).bind fun xs => (rv_ints w d).bind fun ys =>
  if 0 ≤ sp ∧ 0 ≤ dp ∧ 0 ≤ n ∧ sp.toNatClampNeg + n.toNatClampNeg ≤ xs.length ∧ dp.toNatClampNeg + n.toNatClampNeg ≤ ys.length
  then some (w.set d (.inl (0, .inl (rv_tab ys.length (va_cpy (fun j => xs.getD j 0) (fun j => ys.getD j 0) sp.toNatClampNeg dp.toNatClampNeg n.toNatClampNeg))))) else none
/-- jumps -/
def rv_to (pc : Nat) (off : Int) : Nat := ((pc : Int) + off).toNat
/-- conditions that nobody unfolds -/
noncomputable def rv_eq (x y : Int32) : Bool := @decide (x = y) (Classical.propDecidable _)
noncomputable def rv_eqL (x y : Int64) : Bool := @decide (x = y) (Classical.propDecidable _)
def rv_bz (x : Int32) : Bool := Nat.ble x.toUInt32.toNat 1
def rv_ch (x : Int32) : Bool := Nat.ble x.toUInt32.toNat 255
def rv_zz (x : Int32) : Bool := Nat.ble x.toUInt32.toNat 0
noncomputable def rv_tsw (G : Nat → Option rv_X) (pc : Nat) (x : Int32) (d : Int) : Int → List Int → Option rv_X
  | _, [] => G (rv_to pc d)
  | lo, o :: os => cond (rv_eq x (Int32.ofInt lo)) (G (rv_to pc o)) (rv_tsw G pc x d (lo + 1) os)
noncomputable def rv_lsw (G : Nat → Option rv_X) (pc : Nat) (x : Int32) (d : Int) : List (Int × Int) → Option rv_X
  | [] => G (rv_to pc d)
  | q :: os => cond (rv_eq x (Int32.ofInt q.1)) (G (rv_to pc q.2)) (rv_lsw G pc x d os)
noncomputable def rv_cnd (c : Jvm.ClassFile.Cond) (x y : Int32) : Bool := match c with
  | .eq => @decide (x = y) (Classical.propDecidable _)
  | .ne => @decide (¬ x = y) (Classical.propDecidable _)
  | .lt => @decide (x < y) (Classical.propDecidable _)
  | .ge => @decide (y ≤ x) (Classical.propDecidable _)
  | .gt => @decide (y < x) (Classical.propDecidable _)
  | .le => @decide (x ≤ y) (Classical.propDecidable _)
/-- what a call gives, by the kind of its answer: 0 nothing, 1 an int, 2 a long, 3 a reference -/
def rv_ri (o : Option rv_X) : Option (Int32 × rv_W) := o.bind fun q => match q.1 with
  | some (.int x) => some (x, q.2)
  | _ => none
def rv_rl (o : Option rv_X) : Option (Int64 × rv_W) := o.bind fun q => match q.1 with
  | some (.long x) => some (x, q.2)
  | _ => none
def rv_rr (o : Option rv_X) : Option (Nat × rv_W) := o.bind fun q => match q.1 with
  | some (.ref x) => some (x, q.2)
  | _ => none
def rv_rv (o : Option rv_X) : Option rv_W := o.bind fun q => match q.1 with
  | none => some q.2
  | _ => none
def rv_max (x y : Int32) : Int32 := if x < y then y else x
def rv_min (x y : Int32) : Int32 := if y < x then y else x
/-- a decision of the machine's own, that its tables settle -/
def rv_if (b : Bool) (x y : Option rv_X) : Option rv_X := match b with
  | true => x
  | false => y
def rv_ob {α β : Type} (o : Option α) (f : α → Option β) : Option β := match o with
  | some x => f x
  | none => none
def rv_call (G : rv_G) (E : rv_F) (a b pc : Nat) (lv : rv_L) (st : List Value) (w : rv_W) : Option rv_X :=
  rv_if (Nat.ble (b / 4) st.length && Nat.ble ((st.drop (b / 4)).map Value.category).sum 8) (rv_if (Nat.beq (b % 4) 1) ((rv_ri (E a (st.take (b / 4)).reverse w)).bind fun q => G (pc + 3) lv (.int q.1 :: st.drop (b / 4)) q.2)
    (rv_if (Nat.beq (b % 4) 0) ((rv_rv (E a (st.take (b / 4)).reverse w)).bind fun q => G (pc + 3) lv (st.drop (b / 4)) q)
    (rv_if (Nat.beq (b % 4) 2) ((rv_rl (E a (st.take (b / 4)).reverse w)).bind fun q => G (pc + 3) lv (.long q.1 :: st.drop (b / 4)) q.2)
    ((rv_rr (E a (st.take (b / 4)).reverse w)).bind fun q => G (pc + 3) lv (.ref q.1 :: st.drop (b / 4)) q.2)))) none
noncomputable def rv_stepI (G : rv_G) (E : rv_F) (a b : Nat) (c : Int32) (pc : Nat) (lv : rv_L) (st : List Value) (w : rv_W) : Jvm.ClassFile.Instr → Option rv_X
  | .iconst _ => G (pc + 1) lv (.int c :: st) w
  | .bipush _ => G (pc + 2) lv (.int c :: st) w
  | .sipush _ => G (pc + 3) lv (.int c :: st) w
  | .ldc _ => rv_if (Nat.beq a 0) (G (pc + 2) lv (.int c :: st) w) (G (pc + 2) lv (.ref (1000 + b) :: st) w)
  | .ldc_w _ => G (pc + 3) lv (.int c :: st) w
  | .ldc2_w _ => G (pc + 3) lv (.long c.toInt64 :: st) w
  | .lconst _ => G (pc + 1) lv (.long c.toInt64 :: st) w
  | .iload i => rv_gi lv i fun x => G (pc + 2) lv (.int x :: st) w
  | .iload_n i => rv_gi lv i.val fun x => G (pc + 1) lv (.int x :: st) w
  | .lload i => rv_gl lv i fun x => G (pc + 2) lv (.long x :: st) w
  | .lload_n i => rv_gl lv i.val fun x => G (pc + 1) lv (.long x :: st) w
  | .aload i => rv_ga lv i fun x => G (pc + 2) lv (.ref x :: st) w
  | .aload_n i => rv_ga lv i.val fun x => G (pc + 1) lv (.ref x :: st) w
  | .istore i => rv_i1 st fun x r => G (pc + 2) (rv_put lv i (.int x)) r w
  | .istore_n i => rv_i1 st fun x r => G (pc + 1) (rv_put lv i.val (.int x)) r w
  | .lstore i => rv_l1 st fun x r => G (pc + 2) (rv_put2 lv i (.long x)) r w
  | .lstore_n i => rv_l1 st fun x r => G (pc + 1) (rv_put2 lv i.val (.long x)) r w
  | .astore i => rv_a1 st fun x r => G (pc + 2) (rv_put lv i (.ref x)) r w
  | .astore_n i => rv_a1 st fun x r => G (pc + 1) (rv_put lv i.val (.ref x)) r w
  | .iinc i _ => rv_gi lv i fun x => G (pc + 3) (rv_put lv i (.int (x + c))) st w
  | .iadd => rv_i2 st fun x y r => G (pc + 1) lv (.int (x + y) :: r) w
  | .isub => rv_i2 st fun x y r => G (pc + 1) lv (.int (x - y) :: r) w
  | .imul => rv_i2 st fun x y r => G (pc + 1) lv (.int (x * y) :: r) w
  | .iand => rv_i2 st fun x y r => G (pc + 1) lv (.int (x &&& y) :: r) w
  | .ior => rv_i2 st fun x y r => G (pc + 1) lv (.int (x ||| y) :: r) w
  | .ixor => rv_i2 st fun x y r => G (pc + 1) lv (.int (x ^^^ y) :: r) w
  | .ishl => rv_i2 st fun x y r => G (pc + 1) lv (.int (x <<< (y &&& 31)) :: r) w
  | .ishr => rv_i2 st fun x y r => G (pc + 1) lv (.int (x >>> (y &&& 31)) :: r) w
  | .iushr => rv_i2 st fun x y r => G (pc + 1) lv (.int (x.toUInt32 >>> (y.toUInt32 &&& Int32.toUInt32 31)).toInt32 :: r) w
  | .idiv => rv_i2 st fun x y r => cond (rv_eq y 0) none (G (pc + 1) lv (.int (x / y) :: r) w)
  | .irem => rv_i2 st fun x y r => cond (rv_eq y 0) none (G (pc + 1) lv (.int (x - x / y * y) :: r) w)
  | .lmul => rv_l2 st fun x y r => G (pc + 1) lv (.long (x * y) :: r) w
  | .land => rv_l2 st fun x y r => G (pc + 1) lv (.long (x &&& y) :: r) w
  | .lor => rv_l2 st fun x y r => G (pc + 1) lv (.long (x ||| y) :: r) w
  | .ldiv => rv_l2 st fun x y r => cond (rv_eqL y 0) none (G (pc + 1) lv (.long (x / y) :: r) w)
  | .lrem => rv_l2 st fun x y r => cond (rv_eqL y 0) none (G (pc + 1) lv (.long (x - x / y * y) :: r) w)
  | .lshl => rv_li st fun x y r => G (pc + 1) lv (.long (x <<< (y.toInt64 &&& 63)) :: r) w
  | .lshr => rv_li st fun x y r => G (pc + 1) lv (.long (x >>> (y.toInt64 &&& 63)) :: r) w
  | .lcmp => rv_l2 st fun x y r => G (pc + 1) lv (.int (lg_cmp x y) :: r) w
  | .i2l => rv_i1 st fun x r => G (pc + 1) lv (.long x.toInt64 :: r) w
  | .i2b => rv_i1 st fun x r => G (pc + 1) lv (.int x.toInt8.toInt32 :: r) w
  | .i2s => rv_i1 st fun x r => G (pc + 1) lv (.int x.toInt16.toInt32 :: r) w
  | .i2c => rv_i1 st fun x r => G (pc + 1) lv (.int (x.toUInt32 % 65536).toInt32 :: r) w
  | .dup => rv_v1 st fun x r => G (pc + 1) lv (x :: x :: r) w
  | .dup2 => rv_v2 st fun x y r => G (pc + 1) lv (y :: x :: y :: x :: r) w
  | .pop => rv_v1 st fun _ r => G (pc + 1) lv r w
  | .ifCond q off => rv_i1 st fun x r => cond (rv_cnd q x 0) (G (rv_to pc off) lv r w) (G (pc + 3) lv r w)
  | .if_icmp q off => rv_i2 st fun x y r => cond (rv_cnd q x y) (G (rv_to pc off) lv r w) (G (pc + 3) lv r w)
  | .goto off => G (rv_to pc off) lv st w
  | .tableswitch d lo _ offs => rv_i1 st fun x r => rv_tsw (fun pc => G pc lv r w) pc x d lo offs.toList
  | .lookupswitch d ps => rv_i1 st fun x r => rv_lsw (fun pc => G pc lv r w) pc x d ps.toList
  | .iaload => rv_ai st fun p i r => (rv_ldI w p i).bind fun x => G (pc + 1) lv (.int x :: r) w
  | .baload => rv_ai st fun p i r => (rv_ldB w p i).bind fun x => G (pc + 1) lv (.int x :: r) w
  | .aaload => rv_ai st fun p i r => (rv_ldQ w p i).bind fun x => G (pc + 1) lv (.ref x :: r) w
  | .iastore => rv_aii st fun p i x r => (rv_stI w p i x).bind fun w => G (pc + 1) lv r w
  | .bastore => rv_aii st fun p i x r => (rv_stB w p i x).bind fun w => G (pc + 1) lv r w
  | .arraylength => rv_a1 st fun p r => (rv_len w p).bind fun x => G (pc + 1) lv (.int x :: r) w
  | .getfield _ => rv_a1 st fun p r => rv_if (Nat.beq (b % 10) 1) ((rv_ldFI w p a (b / 10)).bind fun x => G (pc + 3) lv (.int x :: r) w)
    (rv_if (Nat.beq (b % 10) 3) ((rv_ldFR w p a (b / 10)).bind fun x => G (pc + 3) lv (.ref x :: r) w)
    (rv_if (Nat.beq (b % 10) 4) (cond (Nat.ble 1000 p && Nat.ble p 1013) (G (pc + 3) lv (.ref (1000 + p) :: r) w) none)
    (cond (Nat.ble 1000 p && Nat.ble p 1013) (G (pc + 3) lv (.int 0 :: r) w) none)))
  | .putfield _ => rv_if (Nat.beq (b % 10) 3) (rv_aa st fun p v r => (rv_stF w p a (b / 10) (.ref v)).bind fun w => G (pc + 3) lv r w)
    (rv_if (Nat.beq (b % 10) 2) (rv_iaR st fun p v r => cond (rv_bz v) ((rv_stF w p a (b / 10) (.int v)).bind fun w => G (pc + 3) lv r w) none)
    (rv_iaR st fun p v r => (rv_stF w p a (b / 10) (.int v)).bind fun w => G (pc + 3) lv r w))
  | .getstatic _ => rv_if (Nat.beq a 0) (G (pc + 3) lv (.ref 3000 :: st) w) (rv_if (Nat.beq a 1) (G (pc + 3) lv (.int 1 :: st) w) (G (pc + 3) lv (.retAddr 0 :: st) w))
  | .invokevirtual _ => rv_call G E a b pc lv st w
  | .invokestatic _ => rv_if (Nat.beq a 9999) (rv_cp st fun s sp d dp n r => rv_if (Nat.ble (r.map Value.category).sum 8) ((rv_cpy w s sp d dp n).bind fun w => G (pc + 3) lv r w) none)
    (rv_if (Nat.beq a 9998) (rv_i2 st fun x y r => rv_if (Nat.ble (r.map Value.category).sum 8) (G (pc + 3) lv (.int (rv_max x y) :: r) w) none)
    (rv_if (Nat.beq a 9997) (rv_i2 st fun x y r => rv_if (Nat.ble (r.map Value.category).sum 8) (G (pc + 3) lv (.int (rv_min x y) :: r) w) none) (rv_call G E a b pc lv st w)))
  | .ireturn => rv_i1 st fun x r => rv_end r (rv_if (Nat.beq a 0) (some (some (.int x), w)) (rv_if (Nat.beq a 1) (cond (rv_bz x) (some (some (.int x), w)) none)
    (rv_if (Nat.beq a 2) (cond (rv_zz x) (some (some (.int x), w)) none) (cond (rv_ch x) (some (some (.int x), w)) none))))
  | .lreturn => rv_l1 st fun x r => rv_end r (some (some (.long x), w))
  | .areturn => rv_a1 st fun x r => rv_end r (some (some (.ref x), w))
  | .return_ => rv_end st (some (none, w))
  | _ => none
noncomputable def rv_step (G : rv_G) (E : rv_F) (x : rv_I) (pc : Nat) (lv : rv_L) (st : List Value) (w : rv_W) : Option rv_X :=
  match x with
  | (i, _, a, b, _, c, dead) => rv_stepI G E a b c pc (rv_kill dead lv) st w i
def rv_lk : rv_C → Nat → Option rv_I
  | [], _ => none
  | q :: l, pc => cond (Nat.beq q.1 pc) (some q.2) (rv_lk l pc)
/-- a method: its name, its bytes, its locals, its answer's type, its class in the tables (99: static, 98: String), frames and words of its room, its instructions -/
abbrev rv_M : Type := MethodName × ByteArray × Nat × Option FieldType × Nat × Nat × Nat × rv_C
def rv_isC (w : rv_W) (ci : Nat) (as : List Value) : Bool := match ci with
  | 99 => true
  | 98 => match as with
    | .ref p :: _ => decide (1000 ≤ p) && decide (p < 1014)
    | _ => false
  | _ => match as with
    | .ref p :: _ => (rv_obj w p ci).isSome
    | _ => false
end
section
def rc_X0_isKind : rv_C := [
  (0, .iload_n 0, 1, 0, 0, 0, 0, []),
  (1, .ifCond .lt 13, 3, 0, 0, 0, 0, []),
  (4, .iload_n 0, 1, 0, 0, 0, 0, []),
  (5, .bipush 7, 2, 0, 0, 0, 7, []),
  (7, .if_icmp .ge 7, 3, 0, 0, 0, 0, []),
  (10, .iconst 1, 1, 0, 0, 0, 1, []),
  (11, .goto 4, 3, 0, 0, 0, 0, []),
  (14, .iconst 0, 1, 0, 0, 0, 0, []),
  (15, .ireturn, 1, 1, 0, 0, 0, [])]
def rm_X0_isKind : rv_M := (yX0_isKind, cX0_isKind, 1, some .boolean, 99, 0, 0, rc_X0_isKind)
def rc_X0_isUnder : rv_C := [
  (0, .iload_n 0, 1, 0, 0, 0, 0, []),
  (1, .istore_n 2, 1, 0, 0, 0, 0, []),
  (2, .iconst 0, 1, 0, 0, 0, 0, []),
  (3, .istore_n 3, 1, 0, 0, 0, 0, []),
  (4, .iload_n 3, 1, 0, 0, 0, 0, [0]),
  (5, .bipush 7, 2, 0, 0, 0, 7, []),
  (7, .if_icmp .ge 29, 3, 0, 0, 0, 0, []),
  (10, .iload_n 2, 1, 0, 0, 0, 0, []),
  (11, .invokestatic 9, 3, 0, 5, 668, 0, []),
  (14, .ifCond .eq 22, 3, 0, 0, 0, 0, []),
  (17, .iload_n 2, 1, 0, 0, 0, 0, []),
  (18, .iload_n 1, 1, 0, 0, 0, 0, []),
  (19, .if_icmp .ne 5, 3, 0, 0, 0, 0, []),
  (22, .iconst 1, 1, 0, 0, 0, 1, []),
  (23, .ireturn, 1, 1, 0, 0, 0, []),
  (24, .getstatic 13, 3, 0, 0, 669, 0, []),
  (27, .iload_n 2, 1, 0, 0, 0, 0, []),
  (28, .iaload, 1, 0, 0, 0, 0, []),
  (29, .istore_n 2, 1, 0, 0, 0, 0, []),
  (30, .iinc 3 1, 3, 0, 0, 0, 1, []),
  (33, .goto (-29), 3, 0, 0, 0, 0, []),
  (36, .iconst 0, 1, 0, 0, 0, 0, []),
  (37, .ireturn, 1, 1, 0, 0, 0, [])]
def rm_X0_isUnder : rv_M := (yX0_isUnder, cX0_isUnder, 4, some .boolean, 99, 1, 20, rc_X0_isUnder)
def rc_X0_adds : rv_C := [
  (0, .iload_n 0, 1, 0, 0, 0, 0, []),
  (1, .tableswitch 74 1 6 #[39, 49, 52, 55, 63, 43], 39, 0, 0, 0, 0, []),
  (40, .sipush 128, 3, 0, 0, 0, 128, []),
  (43, .ireturn, 1, 0, 0, 0, 0, []),
  (44, .sipush 128, 3, 0, 0, 0, 128, []),
  (47, .iload_n 1, 1, 0, 0, 0, 0, []),
  (48, .iadd, 1, 0, 0, 0, 0, []),
  (49, .ireturn, 1, 0, 0, 0, 0, []),
  (50, .bipush 32, 2, 0, 0, 0, 32, []),
  (52, .ireturn, 1, 0, 0, 0, 0, []),
  (53, .bipush 8, 2, 0, 0, 0, 8, []),
  (55, .ireturn, 1, 0, 0, 0, 0, []),
  (56, .bipush 8, 2, 0, 0, 0, 8, []),
  (58, .iload_n 3, 1, 0, 0, 0, 0, []),
  (59, .invokestatic 17, 3, 209, 5, 302, 0, []),
  (62, .iadd, 1, 0, 0, 0, 0, []),
  (63, .ireturn, 1, 0, 0, 0, 0, []),
  (64, .iload_n 2, 1, 0, 0, 0, 0, []),
  (65, .ifCond .ne 8, 3, 0, 0, 0, 0, []),
  (68, .bipush 64, 2, 0, 0, 0, 64, []),
  (70, .goto 4, 3, 0, 0, 0, 0, []),
  (73, .iconst 0, 1, 0, 0, 0, 0, []),
  (74, .ireturn, 1, 0, 0, 0, 0, []),
  (75, .bipush 64, 2, 0, 0, 0, 64, []),
  (77, .ireturn, 1, 0, 0, 0, 0, [])]
def rm_X0_adds : rv_M := (yX0_adds, cX0_adds, 4, some .int, 99, 1, 20, rc_X0_adds)
def rc_X0_cools : rv_C := [
  (0, .iload_n 0, 1, 0, 0, 0, 0, []),
  (1, .tableswitch 50 1 6 #[39, 45, 45, 45, 47, 42], 39, 0, 0, 0, 0, []),
  (40, .bipush 8, 2, 0, 0, 0, 8, []),
  (42, .ireturn, 1, 0, 0, 0, 0, []),
  (43, .bipush 16, 2, 0, 0, 0, 16, []),
  (45, .ireturn, 1, 0, 0, 0, 0, []),
  (46, .iconst 3, 1, 0, 0, 0, 3, []),
  (47, .ireturn, 1, 0, 0, 0, 0, []),
  (48, .bipush 10, 2, 0, 0, 0, 10, []),
  (50, .ireturn, 1, 0, 0, 0, 0, []),
  (51, .iconst 5, 1, 0, 0, 0, 5, []),
  (52, .ireturn, 1, 0, 0, 0, 0, [])]
def rm_X0_cools : rv_M := (yX0_cools, cX0_cools, 1, some .int, 99, 0, 0, rc_X0_cools)
def rc_X0_nose : rv_C := [
  (0, .iload_n 0, 1, 0, 0, 0, 0, []),
  (1, .tableswitch 52 2 6 #[39, 42, 45, 48, 35], 35, 0, 0, 0, 0, []),
  (36, .sipush 300, 3, 0, 0, 0, 300, []),
  (39, .ireturn, 1, 0, 0, 0, 0, []),
  (40, .bipush 50, 2, 0, 0, 0, 50, []),
  (42, .ireturn, 1, 0, 0, 0, 0, []),
  (43, .bipush 30, 2, 0, 0, 0, 30, []),
  (45, .ireturn, 1, 0, 0, 0, 0, []),
  (46, .bipush 10, 2, 0, 0, 0, 10, []),
  (48, .ireturn, 1, 0, 0, 0, 0, []),
  (49, .sipush 400, 3, 0, 0, 0, 400, []),
  (52, .ireturn, 1, 0, 0, 0, 0, []),
  (53, .bipush 100, 2, 0, 0, 0, 100, []),
  (55, .ireturn, 1, 0, 0, 0, 0, [])]
def rm_X0_nose : rv_M := (yX0_nose, cX0_nose, 1, some .int, 99, 0, 0, rc_X0_nose)
def rc_X1_begin : rv_C := [
  (0, .aload_n 0, 1, 0, 0, 0, 0, []),
  (1, .iload_n 1, 1, 0, 0, 0, 0, []),
  (2, .putfield 15, 3, 0, 11, 177, 0, []),
  (5, .aload_n 0, 1, 0, 0, 0, 0, []),
  (6, .iload_n 2, 1, 0, 0, 0, 0, []),
  (7, .putfield 19, 3, 0, 21, 179, 0, []),
  (10, .iconst 0, 1, 0, 0, 0, 0, []),
  (11, .istore_n 3, 1, 0, 0, 0, 0, []),
  (12, .iload_n 3, 1, 0, 0, 0, 0, [1, 2]),
  (13, .bipush 40, 2, 0, 0, 0, 40, []),
  (15, .if_icmp .ge 16, 3, 0, 0, 0, 0, []),
  (18, .aload_n 0, 1, 0, 0, 0, 0, []),
  (19, .getfield 9, 3, 0, 3, 175, 0, []),
  (22, .iload_n 3, 1, 0, 0, 0, 0, []),
  (23, .iconst 0, 1, 0, 0, 0, 0, []),
  (24, .iastore, 1, 0, 0, 0, 0, []),
  (25, .iinc 3 1, 3, 0, 0, 0, 1, []),
  (28, .goto (-16), 3, 0, 0, 0, 0, []),
  (31, .return_, 1, 0, 0, 0, 0, [])]
def rm_X1_begin : rv_M := (yX1_begin, cX1_begin, 4, none, 0, 0, 0, rc_X1_begin)
def rc_X1_isMissing : rv_C := [
  (0, .aload_n 0, 1, 0, 0, 0, 0, []),
  (1, .getfield 15, 3, 0, 11, 177, 0, []),
  (4, .ifCond .ne 7, 3, 0, 0, 0, 0, []),
  (7, .iconst 1, 1, 0, 0, 0, 1, []),
  (8, .goto 4, 3, 0, 0, 0, 0, []),
  (11, .iconst 0, 1, 0, 0, 0, 0, []),
  (12, .ireturn, 1, 1, 0, 0, 0, [])]
def rm_X1_isMissing : rv_M := (yX1_isMissing, cX1_isMissing, 1, some .boolean, 0, 0, 0, rc_X1_isMissing)
def rc_X1_hasSpan : rv_C := [
  (0, .iload_n 1, 1, 0, 0, 0, 0, []),
  (1, .ifCond .lt 29, 3, 0, 0, 0, 0, []),
  (4, .iload_n 2, 1, 0, 0, 0, 0, []),
  (5, .ifCond .lt 25, 3, 0, 0, 0, 0, []),
  (8, .iload_n 2, 1, 0, 0, 0, 0, []),
  (9, .aload_n 0, 1, 0, 0, 0, 0, []),
  (10, .getfield 19, 3, 0, 21, 179, 0, []),
  (13, .if_icmp .gt 17, 3, 0, 0, 0, 0, []),
  (16, .iload_n 1, 1, 0, 0, 0, 0, []),
  (17, .aload_n 0, 1, 0, 0, 0, 0, []),
  (18, .getfield 19, 3, 0, 21, 179, 0, []),
  (21, .iload_n 2, 1, 0, 0, 0, 0, []),
  (22, .isub, 1, 0, 0, 0, 0, []),
  (23, .if_icmp .gt 7, 3, 0, 0, 0, 0, []),
  (26, .iconst 1, 1, 0, 0, 0, 1, []),
  (27, .goto 4, 3, 0, 0, 0, 0, []),
  (30, .iconst 0, 1, 0, 0, 0, 0, []),
  (31, .ireturn, 1, 1, 0, 0, 0, [])]
def rm_X1_hasSpan : rv_M := (yX1_hasSpan, cX1_hasSpan, 3, some .boolean, 0, 0, 0, rc_X1_hasSpan)
def rc_X1_put : rv_C := [
  (0, .aload_n 0, 1, 0, 0, 0, 0, []),
  (1, .getfield 15, 3, 0, 11, 177, 0, []),
  (4, .lookupswitch 50 #[(8, 28), (16, 39)], 28, 0, 0, 0, 0, []),
  (32, .aload_n 0, 1, 0, 0, 0, 0, []),
  (33, .getfield 9, 3, 0, 3, 175, 0, []),
  (36, .iload_n 1, 1, 0, 0, 0, 0, []),
  (37, .iload_n 2, 1, 0, 0, 0, 0, []),
  (38, .i2b, 1, 0, 0, 0, 0, []),
  (39, .iastore, 1, 0, 0, 0, 0, []),
  (40, .goto 21, 3, 0, 0, 0, 0, []),
  (43, .aload_n 0, 1, 0, 0, 0, 0, []),
  (44, .getfield 9, 3, 0, 3, 175, 0, []),
  (47, .iload_n 1, 1, 0, 0, 0, 0, []),
  (48, .iload_n 2, 1, 0, 0, 0, 0, []),
  (49, .i2s, 1, 0, 0, 0, 0, []),
  (50, .iastore, 1, 0, 0, 0, 0, []),
  (51, .goto 10, 3, 0, 0, 0, 0, []),
  (54, .aload_n 0, 1, 0, 0, 0, 0, []),
  (55, .getfield 9, 3, 0, 3, 175, 0, []),
  (58, .iload_n 1, 1, 0, 0, 0, 0, []),
  (59, .iload_n 2, 1, 0, 0, 0, 0, []),
  (60, .iastore, 1, 0, 0, 0, 0, []),
  (61, .return_, 1, 0, 0, 0, 0, [])]
def rm_X1_put : rv_M := (yX1_put, cX1_put, 3, none, 0, 0, 0, rc_X1_put)
def rc_X2_take : rv_C := [
  (0, .aload_n 1, 1, 0, 0, 0, 0, []),
  (1, .getfield 9, 3, 1, 3, 91, 0, []),
  (4, .iconst 0, 1, 0, 0, 0, 0, []),
  (5, .aload_n 0, 1, 0, 0, 0, 0, []),
  (6, .getfield 9, 3, 1, 3, 91, 0, []),
  (9, .iconst 0, 1, 0, 0, 0, 0, []),
  (10, .bipush 10, 2, 0, 0, 0, 10, []),
  (12, .invokestatic 49, 3, 9999, 0, 414, 0, []),
  (15, .aload_n 1, 1, 0, 0, 0, 0, []),
  (16, .getfield 15, 3, 1, 13, 94, 0, []),
  (19, .iconst 0, 1, 0, 0, 0, 0, []),
  (20, .aload_n 0, 1, 0, 0, 0, 0, []),
  (21, .getfield 15, 3, 1, 13, 94, 0, []),
  (24, .iconst 0, 1, 0, 0, 0, 0, []),
  (25, .bipush 40, 2, 0, 0, 0, 40, []),
  (27, .invokestatic 49, 3, 9999, 0, 414, 0, []),
  (30, .aload_n 1, 1, 0, 0, 0, 0, []),
  (31, .getfield 18, 3, 1, 23, 95, 0, []),
  (34, .iconst 0, 1, 0, 0, 0, 0, []),
  (35, .aload_n 0, 1, 0, 0, 0, 0, []),
  (36, .getfield 18, 3, 1, 23, 95, 0, []),
  (39, .iconst 0, 1, 0, 0, 0, 0, []),
  (40, .bipush 8, 2, 0, 0, 0, 8, []),
  (42, .invokestatic 49, 3, 9999, 0, 414, 0, []),
  (45, .aload_n 1, 1, 0, 0, 0, 0, []),
  (46, .getfield 21, 3, 1, 33, 97, 0, []),
  (49, .iconst 0, 1, 0, 0, 0, 0, []),
  (50, .aload_n 0, 1, 0, 0, 0, 0, []),
  (51, .getfield 21, 3, 1, 33, 97, 0, []),
  (54, .iconst 0, 1, 0, 0, 0, 0, []),
  (55, .bipush 8, 2, 0, 0, 0, 8, []),
  (57, .invokestatic 49, 3, 9999, 0, 414, 0, []),
  (60, .aload_n 1, 1, 0, 0, 0, 0, []),
  (61, .getfield 24, 3, 1, 43, 99, 0, []),
  (64, .iconst 0, 1, 0, 0, 0, 0, []),
  (65, .aload_n 0, 1, 0, 0, 0, 0, []),
  (66, .getfield 24, 3, 1, 43, 99, 0, []),
  (69, .iconst 0, 1, 0, 0, 0, 0, []),
  (70, .bipush 8, 2, 0, 0, 0, 8, []),
  (72, .invokestatic 49, 3, 9999, 0, 414, 0, []),
  (75, .aload_n 1, 1, 0, 0, 0, 0, []),
  (76, .getfield 27, 3, 1, 53, 101, 0, []),
  (79, .iconst 0, 1, 0, 0, 0, 0, []),
  (80, .aload_n 0, 1, 0, 0, 0, 0, []),
  (81, .getfield 27, 3, 1, 53, 101, 0, []),
  (84, .iconst 0, 1, 0, 0, 0, 0, []),
  (85, .bipush 8, 2, 0, 0, 0, 8, []),
  (87, .invokestatic 49, 3, 9999, 0, 414, 0, []),
  (90, .aload_n 1, 1, 0, 0, 0, 0, []),
  (91, .getfield 30, 3, 1, 63, 103, 0, []),
  (94, .iconst 0, 1, 0, 0, 0, 0, []),
  (95, .aload_n 0, 1, 0, 0, 0, 0, []),
  (96, .getfield 30, 3, 1, 63, 103, 0, []),
  (99, .iconst 0, 1, 0, 0, 0, 0, []),
  (100, .bipush 10, 2, 0, 0, 0, 10, []),
  (102, .invokestatic 49, 3, 9999, 0, 414, 0, []),
  (105, .aload_n 0, 1, 0, 0, 0, 0, []),
  (106, .aload_n 1, 1, 0, 0, 0, 0, []),
  (107, .getfield 33, 3, 1, 71, 105, 0, []),
  (110, .putfield 33, 3, 1, 71, 105, 0, []),
  (113, .aload_n 0, 1, 0, 0, 0, 0, []),
  (114, .aload_n 1, 1, 0, 0, 0, 0, []),
  (115, .getfield 37, 3, 1, 81, 107, 0, []),
  (118, .putfield 37, 3, 1, 81, 107, 0, []),
  (121, .aload_n 0, 1, 0, 0, 0, 0, []),
  (122, .aload_n 1, 1, 0, 0, 0, 0, []),
  (123, .getfield 40, 3, 1, 91, 110, 0, []),
  (126, .putfield 40, 3, 1, 91, 110, 0, []),
  (129, .aload_n 0, 1, 0, 0, 0, 0, []),
  (130, .aload_n 1, 1, 0, 0, 0, 0, []),
  (131, .getfield 43, 3, 1, 101, 112, 0, []),
  (134, .putfield 43, 3, 1, 101, 112, 0, []),
  (137, .aload_n 0, 1, 0, 0, 0, 0, []),
  (138, .aload_n 1, 1, 0, 0, 0, 0, []),
  (139, .getfield 46, 3, 1, 111, 114, 0, []),
  (142, .putfield 46, 3, 1, 111, 114, 0, []),
  (145, .return_, 1, 0, 0, 0, 0, [])]
def rm_X2_take : rv_M := (yX2_take, cX2_take, 2, none, 1, 1, 26, rc_X2_take)
def rc_X2_hasBather : rv_C := [
  (0, .iload_n 1, 1, 0, 0, 0, 0, []),
  (1, .ifCond .lt 15, 3, 0, 0, 0, 0, []),
  (4, .iload_n 1, 1, 0, 0, 0, 0, []),
  (5, .aload_n 0, 1, 0, 0, 0, 0, []),
  (6, .getfield 33, 3, 1, 71, 105, 0, []),
  (9, .if_icmp .ge 7, 3, 0, 0, 0, 0, []),
  (12, .iconst 1, 1, 0, 0, 0, 1, []),
  (13, .goto 4, 3, 0, 0, 0, 0, []),
  (16, .iconst 0, 1, 0, 0, 0, 0, []),
  (17, .ireturn, 1, 1, 0, 0, 0, [])]
def rm_X2_hasBather : rv_M := (yX2_hasBather, cX2_hasBather, 2, some .boolean, 1, 0, 0, rc_X2_hasBather)
def rc_X2_isFull : rv_C := [
  (0, .aload_n 0, 1, 0, 0, 0, 0, []),
  (1, .getfield 33, 3, 1, 71, 105, 0, []),
  (4, .bipush 8, 2, 0, 0, 0, 8, []),
  (6, .if_icmp .lt 7, 3, 0, 0, 0, 0, []),
  (9, .iconst 1, 1, 0, 0, 0, 1, []),
  (10, .goto 4, 3, 0, 0, 0, 0, []),
  (13, .iconst 0, 1, 0, 0, 0, 0, []),
  (14, .ireturn, 1, 1, 0, 0, 0, [])]
def rm_X2_isFull : rv_M := (yX2_isFull, cX2_isFull, 1, some .boolean, 1, 0, 0, rc_X2_isFull)
def rc_X2_addBather : rv_C := [
  (0, .aload_n 0, 1, 0, 0, 0, 0, []),
  (1, .getfield 33, 3, 1, 71, 105, 0, []),
  (4, .istore 5, 2, 0, 0, 0, 0, []),
  (6, .aload_n 0, 1, 0, 0, 0, 0, []),
  (7, .getfield 18, 3, 1, 23, 95, 0, []),
  (10, .iload 5, 2, 0, 0, 0, 0, []),
  (12, .iload_n 1, 1, 0, 0, 0, 0, []),
  (13, .iastore, 1, 0, 0, 0, 0, []),
  (14, .aload_n 0, 1, 0, 0, 0, 0, []),
  (15, .getfield 21, 3, 1, 33, 97, 0, []),
  (18, .iload 5, 2, 0, 0, 0, 0, []),
  (20, .iload_n 2, 1, 0, 0, 0, 0, []),
  (21, .iastore, 1, 0, 0, 0, 0, []),
  (22, .aload_n 0, 1, 0, 0, 0, 0, []),
  (23, .getfield 24, 3, 1, 43, 99, 0, []),
  (26, .iload 5, 2, 0, 0, 0, 0, []),
  (28, .iload_n 3, 1, 0, 0, 0, 0, []),
  (29, .iastore, 1, 0, 0, 0, 0, []),
  (30, .aload_n 0, 1, 0, 0, 0, 0, []),
  (31, .getfield 27, 3, 1, 53, 101, 0, []),
  (34, .iload 5, 2, 0, 0, 0, 0, []),
  (36, .iload 4, 2, 0, 0, 0, 0, []),
  (38, .iastore, 1, 0, 0, 0, 0, []),
  (39, .aload_n 0, 1, 0, 0, 0, 0, []),
  (40, .dup, 1, 0, 0, 0, 0, []),
  (41, .getfield 33, 3, 1, 71, 105, 0, []),
  (44, .iconst 1, 1, 0, 0, 0, 1, []),
  (45, .iadd, 1, 0, 0, 0, 0, []),
  (46, .putfield 33, 3, 1, 71, 105, 0, []),
  (49, .iload 5, 2, 0, 0, 0, 0, []),
  (51, .ireturn, 1, 0, 0, 0, 0, [])]
def rm_X2_addBather : rv_M := (yX2_addBather, cX2_addBather, 6, some .int, 1, 0, 0, rc_X2_addBather)
def rc_X2_rowOf : rv_C := [
  (0, .iload_n 1, 1, 0, 0, 0, 0, []),
  (1, .tableswitch 42 0 2 #[27, 32, 37], 27, 0, 0, 0, 0, []),
  (28, .aload_n 0, 1, 0, 0, 0, 0, []),
  (29, .getfield 18, 3, 1, 23, 95, 0, []),
  (32, .areturn, 1, 0, 0, 0, 0, []),
  (33, .aload_n 0, 1, 0, 0, 0, 0, []),
  (34, .getfield 21, 3, 1, 33, 97, 0, []),
  (37, .areturn, 1, 0, 0, 0, 0, []),
  (38, .aload_n 0, 1, 0, 0, 0, 0, []),
  (39, .getfield 24, 3, 1, 43, 99, 0, []),
  (42, .areturn, 1, 0, 0, 0, 0, []),
  (43, .aload_n 0, 1, 0, 0, 0, 0, []),
  (44, .getfield 27, 3, 1, 53, 101, 0, []),
  (47, .areturn, 1, 0, 0, 0, 0, [])]
def rm_X2_rowOf : rv_M := (yX2_rowOf, cX2_rowOf, 2, some (.array .int), 1, 0, 0, rc_X2_rowOf)
def rc_X2_changePlaces : rv_C := [
  (0, .aload_n 0, 1, 0, 0, 0, 0, []),
  (1, .getfield 21, 3, 1, 33, 97, 0, []),
  (4, .iload_n 1, 1, 0, 0, 0, 0, []),
  (5, .iaload, 1, 0, 0, 0, 0, []),
  (6, .istore_n 3, 1, 0, 0, 0, 0, []),
  (7, .aload_n 0, 1, 0, 0, 0, 0, []),
  (8, .getfield 21, 3, 1, 33, 97, 0, []),
  (11, .iload_n 1, 1, 0, 0, 0, 0, []),
  (12, .aload_n 0, 1, 0, 0, 0, 0, []),
  (13, .getfield 21, 3, 1, 33, 97, 0, []),
  (16, .iload_n 2, 1, 0, 0, 0, 0, []),
  (17, .iaload, 1, 0, 0, 0, 0, []),
  (18, .iastore, 1, 0, 0, 0, 0, []),
  (19, .aload_n 0, 1, 0, 0, 0, 0, []),
  (20, .getfield 21, 3, 1, 33, 97, 0, []),
  (23, .iload_n 2, 1, 0, 0, 0, 0, []),
  (24, .iload_n 3, 1, 0, 0, 0, 0, []),
  (25, .iastore, 1, 0, 0, 0, 0, []),
  (26, .return_, 1, 0, 0, 0, 0, [])]
def rm_X2_changePlaces : rv_M := (yX2_changePlaces, cX2_changePlaces, 4, none, 1, 0, 0, rc_X2_changePlaces)
def rc_X2_scentIn : rv_C := [
  (0, .aload_n 0, 1, 0, 0, 0, 0, []),
  (1, .getfield 15, 3, 1, 13, 94, 0, []),
  (4, .iload_n 1, 1, 0, 0, 0, 0, []),
  (5, .iconst 4, 1, 0, 0, 0, 4, []),
  (6, .imul, 1, 0, 0, 0, 0, []),
  (7, .iload_n 2, 1, 0, 0, 0, 0, []),
  (8, .iadd, 1, 0, 0, 0, 0, []),
  (9, .iaload, 1, 0, 0, 0, 0, []),
  (10, .ireturn, 1, 0, 0, 0, 0, [])]
def rm_X2_scentIn : rv_M := (yX2_scentIn, cX2_scentIn, 3, some .int, 1, 0, 0, rc_X2_scentIn)
def rc_X2_setScent : rv_C := [
  (0, .aload_n 0, 1, 0, 0, 0, 0, []),
  (1, .getfield 15, 3, 1, 13, 94, 0, []),
  (4, .iload_n 1, 1, 0, 0, 0, 0, []),
  (5, .iconst 4, 1, 0, 0, 0, 4, []),
  (6, .imul, 1, 0, 0, 0, 0, []),
  (7, .iload_n 2, 1, 0, 0, 0, 0, []),
  (8, .iadd, 1, 0, 0, 0, 0, []),
  (9, .iload_n 3, 1, 0, 0, 0, 0, []),
  (10, .iastore, 1, 0, 0, 0, 0, []),
  (11, .return_, 1, 0, 0, 0, 0, [])]
def rm_X2_setScent : rv_M := (yX2_setScent, cX2_setScent, 4, none, 1, 0, 0, rc_X2_setScent)
def rc_X2_scentsIn : rv_C := [
  (0, .iconst 0, 1, 0, 0, 0, 0, []),
  (1, .istore_n 2, 1, 0, 0, 0, 0, []),
  (2, .iconst 0, 1, 0, 0, 0, 0, []),
  (3, .istore_n 3, 1, 0, 0, 0, 0, []),
  (4, .iload_n 3, 1, 0, 0, 0, 0, []),
  (5, .iconst 4, 1, 0, 0, 0, 4, []),
  (6, .if_icmp .ge 18, 3, 0, 0, 0, 0, []),
  (9, .iload_n 2, 1, 0, 0, 0, 0, []),
  (10, .aload_n 0, 1, 0, 0, 0, 0, []),
  (11, .iload_n 1, 1, 0, 0, 0, 0, []),
  (12, .iload_n 3, 1, 0, 0, 0, 0, []),
  (13, .invokevirtual 55, 3, 15, 13, 258, 0, []),
  (16, .iadd, 1, 0, 0, 0, 0, []),
  (17, .istore_n 2, 1, 0, 0, 0, 0, []),
  (18, .iinc 3 1, 3, 0, 0, 0, 1, []),
  (21, .goto (-17), 3, 0, 0, 0, 0, []),
  (24, .iload_n 2, 1, 0, 0, 0, 0, []),
  (25, .ireturn, 1, 0, 0, 0, 0, [])]
def rm_X2_scentsIn : rv_M := (yX2_scentsIn, cX2_scentsIn, 4, some .int, 1, 1, 22, rc_X2_scentsIn)
def rc_X2_pullPlug : rv_C := [
  (0, .aload_n 0, 1, 0, 0, 0, 0, []),
  (1, .getfield 9, 3, 1, 3, 91, 0, []),
  (4, .iload_n 1, 1, 0, 0, 0, 0, []),
  (5, .iconst 0, 1, 0, 0, 0, 0, []),
  (6, .iastore, 1, 0, 0, 0, 0, []),
  (7, .iconst 0, 1, 0, 0, 0, 0, []),
  (8, .istore_n 2, 1, 0, 0, 0, 0, []),
  (9, .iload_n 2, 1, 0, 0, 0, 0, []),
  (10, .iconst 4, 1, 0, 0, 0, 4, []),
  (11, .if_icmp .ge 16, 3, 0, 0, 0, 0, []),
  (14, .aload_n 0, 1, 0, 0, 0, 0, []),
  (15, .iload_n 1, 1, 0, 0, 0, 0, []),
  (16, .iload_n 2, 1, 0, 0, 0, 0, []),
  (17, .iconst 0, 1, 0, 0, 0, 0, []),
  (18, .invokevirtual 59, 3, 16, 16, 271, 0, []),
  (21, .iinc 2 1, 3, 0, 0, 0, 1, []),
  (24, .goto (-15), 3, 0, 0, 0, 0, []),
  (27, .return_, 1, 0, 0, 0, 0, [])]
def rm_X2_pullPlug : rv_M := (yX2_pullPlug, cX2_pullPlug, 3, none, 1, 1, 23, rc_X2_pullPlug)
def rc_X2_nextDraw : rv_C := [
  (0, .aload_n 0, 1, 0, 0, 0, 0, []),
  (1, .aload_n 0, 1, 0, 0, 0, 0, []),
  (2, .getfield 43, 3, 1, 101, 112, 0, []),
  (5, .ldc 63, 2, 0, 0, 508, 1103515245, []),
  (7, .imul, 1, 0, 0, 0, 0, []),
  (8, .sipush 12345, 3, 0, 0, 0, 12345, []),
  (11, .iadd, 1, 0, 0, 0, 0, []),
  (12, .putfield 43, 3, 1, 101, 112, 0, []),
  (15, .aload_n 0, 1, 0, 0, 0, 0, []),
  (16, .getfield 43, 3, 1, 101, 112, 0, []),
  (19, .bipush 8, 2, 0, 0, 0, 8, []),
  (21, .iushr, 1, 0, 0, 0, 0, []),
  (22, .ireturn, 1, 0, 0, 0, 0, [])]
def rm_X2_nextDraw : rv_M := (yX2_nextDraw, cX2_nextDraw, 1, some .int, 1, 0, 0, rc_X2_nextDraw)
def rc_X2_passHours : rv_C := [
  (0, .iconst 0, 1, 0, 0, 0, 0, []),
  (1, .istore_n 2, 1, 0, 0, 0, 0, []),
  (2, .iload_n 2, 1, 0, 0, 0, 0, []),
  (3, .iload_n 1, 1, 0, 0, 0, 0, []),
  (4, .if_icmp .ge 13, 3, 0, 0, 0, 0, []),
  (7, .aload_n 0, 1, 0, 0, 0, 0, []),
  (8, .invokevirtual 64, 3, 21, 4, 348, 0, []),
  (11, .iinc 2 1, 3, 0, 0, 0, 1, []),
  (14, .goto (-12), 3, 0, 0, 0, 0, []),
  (17, .return_, 1, 0, 0, 0, 0, [])]
def rm_X2_passHours : rv_M := (yX2_passHours, cX2_passHours, 3, none, 1, 5, 109, rc_X2_passHours)
def rc_X2_passHour : rv_C := [
  (0, .aload_n 0, 1, 0, 0, 0, 0, []),
  (1, .invokevirtual 67, 3, 23, 4, 352, 0, []),
  (4, .iconst 0, 1, 0, 0, 0, 0, []),
  (5, .istore_n 1, 1, 0, 0, 0, 0, []),
  (6, .iload_n 1, 1, 0, 0, 0, 0, []),
  (7, .aload_n 0, 1, 0, 0, 0, 0, []),
  (8, .getfield 33, 3, 1, 71, 105, 0, []),
  (11, .if_icmp .ge 22, 3, 0, 0, 0, 0, []),
  (14, .aload_n 0, 1, 0, 0, 0, 0, []),
  (15, .iload_n 1, 1, 0, 0, 0, 0, []),
  (16, .invokevirtual 70, 3, 24, 9, 363, 0, []),
  (19, .ifCond .eq 8, 3, 0, 0, 0, 0, []),
  (22, .aload_n 0, 1, 0, 0, 0, 0, []),
  (23, .iload_n 1, 1, 0, 0, 0, 0, []),
  (24, .invokevirtual 74, 3, 25, 8, 367, 0, []),
  (27, .iinc 1 1, 3, 0, 0, 0, 1, []),
  (30, .goto (-24), 3, 0, 0, 0, 0, []),
  (33, .iconst 0, 1, 0, 0, 0, 0, []),
  (34, .istore_n 1, 1, 0, 0, 0, 0, []),
  (35, .iload_n 1, 1, 0, 0, 0, 0, []),
  (36, .aload_n 0, 1, 0, 0, 0, 0, []),
  (37, .getfield 33, 3, 1, 71, 105, 0, []),
  (40, .if_icmp .ge 31, 3, 0, 0, 0, 0, []),
  (43, .aload_n 0, 1, 0, 0, 0, 0, []),
  (44, .iload_n 1, 1, 0, 0, 0, 0, []),
  (45, .invokevirtual 70, 3, 24, 9, 363, 0, []),
  (48, .ifCond .eq 17, 3, 0, 0, 0, 0, []),
  (51, .aload_n 0, 1, 0, 0, 0, 0, []),
  (52, .getfield 27, 3, 1, 53, 101, 0, []),
  (55, .iload_n 1, 1, 0, 0, 0, 0, []),
  (56, .dup2, 1, 0, 0, 0, 0, []),
  (57, .iaload, 1, 0, 0, 0, 0, []),
  (58, .aload_n 0, 1, 0, 0, 0, 0, []),
  (59, .iload_n 1, 1, 0, 0, 0, 0, []),
  (60, .invokevirtual 78, 3, 27, 9, 376, 0, []),
  (63, .ior, 1, 0, 0, 0, 0, []),
  (64, .iastore, 1, 0, 0, 0, 0, []),
  (65, .iinc 1 1, 3, 0, 0, 0, 1, []),
  (68, .goto (-33), 3, 0, 0, 0, 0, []),
  (71, .aload_n 0, 1, 0, 0, 0, 0, []),
  (72, .aload_n 0, 1, 0, 0, 0, 0, []),
  (73, .getfield 40, 3, 1, 91, 110, 0, []),
  (76, .iconst 1, 1, 0, 0, 0, 1, []),
  (77, .iadd, 1, 0, 0, 0, 0, []),
  (78, .ldc 82, 2, 0, 0, 377, 99999, []),
  (80, .invokestatic 83, 3, 9997, 0, 373, 0, []),
  (83, .putfield 40, 3, 1, 91, 110, 0, []),
  (86, .return_, 1, 0, 0, 0, 0, [])]
def rm_X2_passHour : rv_M := (yX2_passHour, cX2_passHour, 2, none, 1, 4, 88, rc_X2_passHour)
def rc_X2_stepFurther : rv_C := [
  (0, .iload_n 0, 1, 0, 0, 0, 0, []),
  (1, .iconst 3, 1, 0, 0, 0, 3, []),
  (2, .imul, 1, 0, 0, 0, 0, []),
  (3, .iconst 4, 1, 0, 0, 0, 4, []),
  (4, .idiv, 1, 0, 0, 0, 0, []),
  (5, .ireturn, 1, 0, 0, 0, 0, [])]
def rm_X2_stepFurther : rv_M := (yX2_stepFurther, cX2_stepFurther, 1, some .int, 99, 0, 0, rc_X2_stepFurther)
def rc_X2_letWaterDown : rv_C := [
  (0, .bipush 9, 2, 0, 0, 0, 9, []),
  (2, .istore_n 1, 1, 0, 0, 0, 0, []),
  (3, .iload_n 1, 1, 0, 0, 0, 0, []),
  (4, .ifCond .le 29, 3, 0, 0, 0, 0, []),
  (7, .aload_n 0, 1, 0, 0, 0, 0, []),
  (8, .getfield 9, 3, 1, 3, 91, 0, []),
  (11, .iload_n 1, 1, 0, 0, 0, 0, []),
  (12, .aload_n 0, 1, 0, 0, 0, 0, []),
  (13, .getfield 9, 3, 1, 3, 91, 0, []),
  (16, .iload_n 1, 1, 0, 0, 0, 0, []),
  (17, .iconst 1, 1, 0, 0, 0, 1, []),
  (18, .isub, 1, 0, 0, 0, 0, []),
  (19, .iaload, 1, 0, 0, 0, 0, []),
  (20, .iconst 4, 1, 0, 0, 0, 4, []),
  (21, .isub, 1, 0, 0, 0, 0, []),
  (22, .iconst 0, 1, 0, 0, 0, 0, []),
  (23, .invokestatic 88, 3, 9998, 0, 356, 0, []),
  (26, .iastore, 1, 0, 0, 0, 0, []),
  (27, .iinc 1 (-1), 3, 0, 0, 0, -1, []),
  (30, .goto (-27), 3, 0, 0, 0, 0, []),
  (33, .bipush 39, 2, 0, 0, 0, 39, []),
  (35, .istore_n 1, 1, 0, 0, 0, 0, []),
  (36, .iload_n 1, 1, 0, 0, 0, 0, []),
  (37, .iconst 4, 1, 0, 0, 0, 4, []),
  (38, .if_icmp .lt 26, 3, 0, 0, 0, 0, []),
  (41, .aload_n 0, 1, 0, 0, 0, 0, []),
  (42, .getfield 15, 3, 1, 13, 94, 0, []),
  (45, .iload_n 1, 1, 0, 0, 0, 0, []),
  (46, .aload_n 0, 1, 0, 0, 0, 0, []),
  (47, .getfield 15, 3, 1, 13, 94, 0, []),
  (50, .iload_n 1, 1, 0, 0, 0, 0, []),
  (51, .iconst 4, 1, 0, 0, 0, 4, []),
  (52, .isub, 1, 0, 0, 0, 0, []),
  (53, .iaload, 1, 0, 0, 0, 0, []),
  (54, .invokestatic 91, 3, 22, 5, 359, 0, []),
  (57, .iastore, 1, 0, 0, 0, 0, []),
  (58, .iinc 1 (-1), 3, 0, 0, 0, -1, []),
  (61, .goto (-25), 3, 0, 0, 0, 0, []),
  (64, .aload_n 0, 1, 0, 0, 0, 0, []),
  (65, .iconst 0, 1, 0, 0, 0, 0, []),
  (66, .invokevirtual 94, 3, 18, 8, 362, 0, []),
  (69, .aload_n 0, 1, 0, 0, 0, 0, []),
  (70, .getfield 9, 3, 1, 3, 91, 0, []),
  (73, .iconst 0, 1, 0, 0, 0, 0, []),
  (74, .aload_n 0, 1, 0, 0, 0, 0, []),
  (75, .getfield 37, 3, 1, 81, 107, 0, []),
  (78, .iastore, 1, 0, 0, 0, 0, []),
  (79, .return_, 1, 0, 0, 0, 0, [])]
def rm_X2_letWaterDown : rv_M := (yX2_letWaterDown, cX2_letWaterDown, 2, none, 1, 2, 45, rc_X2_letWaterDown)
def rc_X2_isHere : rv_C := [
  (0, .aload_n 0, 1, 0, 0, 0, 0, []),
  (1, .getfield 46, 3, 1, 111, 114, 0, []),
  (4, .iload_n 1, 1, 0, 0, 0, 0, []),
  (5, .ishr, 1, 0, 0, 0, 0, []),
  (6, .iconst 1, 1, 0, 0, 0, 1, []),
  (7, .iand, 1, 0, 0, 0, 0, []),
  (8, .ifCond .ne 7, 3, 0, 0, 0, 0, []),
  (11, .iconst 1, 1, 0, 0, 0, 1, []),
  (12, .goto 4, 3, 0, 0, 0, 0, []),
  (15, .iconst 0, 1, 0, 0, 0, 0, []),
  (16, .ireturn, 1, 1, 0, 0, 0, [])]
def rm_X2_isHere : rv_M := (yX2_isHere, cX2_isHere, 2, some .boolean, 1, 0, 0, rc_X2_isHere)
def rc_X2_bathe : rv_C := [
  (0, .aload_n 0, 1, 0, 0, 0, 0, []),
  (1, .getfield 21, 3, 1, 33, 97, 0, []),
  (4, .iload_n 1, 1, 0, 0, 0, 0, []),
  (5, .iaload, 1, 0, 0, 0, 0, []),
  (6, .istore_n 2, 1, 0, 0, 0, 0, []),
  (7, .aload_n 0, 1, 0, 0, 0, 0, []),
  (8, .getfield 24, 3, 1, 43, 99, 0, []),
  (11, .iload_n 1, 1, 0, 0, 0, 0, []),
  (12, .iaload, 1, 0, 0, 0, 0, []),
  (13, .istore_n 3, 1, 0, 0, 0, 0, []),
  (14, .aload_n 0, 1, 0, 0, 0, 0, []),
  (15, .getfield 9, 3, 1, 3, 91, 0, []),
  (18, .iload_n 2, 1, 0, 0, 0, 0, []),
  (19, .aload_n 0, 1, 0, 0, 0, 0, []),
  (20, .getfield 9, 3, 1, 3, 91, 0, []),
  (23, .iload_n 2, 1, 0, 0, 0, 0, []),
  (24, .iaload, 1, 0, 0, 0, 0, []),
  (25, .aload_n 0, 1, 0, 0, 0, 0, []),
  (26, .getfield 18, 3, 1, 23, 95, 0, []),
  (29, .iload_n 1, 1, 0, 0, 0, 0, []),
  (30, .iaload, 1, 0, 0, 0, 0, []),
  (31, .invokestatic 97, 3, 3, 5, 371, 0, []),
  (34, .isub, 1, 0, 0, 0, 0, []),
  (35, .iconst 0, 1, 0, 0, 0, 0, []),
  (36, .invokestatic 88, 3, 9998, 0, 356, 0, []),
  (39, .iastore, 1, 0, 0, 0, 0, []),
  (40, .aload_n 0, 1, 0, 0, 0, 0, []),
  (41, .iload_n 2, 1, 0, 0, 0, 0, []),
  (42, .iload_n 3, 1, 0, 0, 0, 0, []),
  (43, .aload_n 0, 1, 0, 0, 0, 0, []),
  (44, .iload_n 2, 1, 0, 0, 0, 0, []),
  (45, .iload_n 3, 1, 0, 0, 0, 0, []),
  (46, .invokevirtual 55, 3, 15, 13, 258, 0, []),
  (49, .aload_n 0, 1, 0, 0, 0, 0, []),
  (50, .iload_n 1, 1, 0, 0, 0, 0, []),
  (51, .invokevirtual 102, 3, 26, 9, 372, 0, []),
  (54, .iadd, 1, 0, 0, 0, 0, []),
  (55, .sipush 9999, 3, 0, 0, 0, 9999, []),
  (58, .invokestatic 83, 3, 9997, 0, 373, 0, []),
  (61, .invokevirtual 59, 3, 16, 16, 271, 0, []),
  (64, .return_, 1, 0, 0, 0, 0, [])]
def rm_X2_bathe : rv_M := (yX2_bathe, cX2_bathe, 4, none, 1, 3, 65, rc_X2_bathe)
def rc_X2_addsOf : rv_C := [
  (0, .aload_n 0, 1, 0, 0, 0, 0, []),
  (1, .getfield 21, 3, 1, 33, 97, 0, []),
  (4, .iload_n 1, 1, 0, 0, 0, 0, []),
  (5, .iaload, 1, 0, 0, 0, 0, []),
  (6, .istore_n 2, 1, 0, 0, 0, 0, []),
  (7, .aload_n 0, 1, 0, 0, 0, 0, []),
  (8, .getfield 18, 3, 1, 23, 95, 0, []),
  (11, .iload_n 1, 1, 0, 0, 0, 0, []),
  (12, .iaload, 1, 0, 0, 0, 0, []),
  (13, .aload_n 0, 1, 0, 0, 0, 0, []),
  (14, .getfield 9, 3, 1, 3, 91, 0, []),
  (17, .iload_n 2, 1, 0, 0, 0, 0, []),
  (18, .iaload, 1, 0, 0, 0, 0, []),
  (19, .aload_n 0, 1, 0, 0, 0, 0, []),
  (20, .iload_n 2, 1, 0, 0, 0, 0, []),
  (21, .aload_n 0, 1, 0, 0, 0, 0, []),
  (22, .getfield 24, 3, 1, 43, 99, 0, []),
  (25, .iload_n 1, 1, 0, 0, 0, 0, []),
  (26, .iaload, 1, 0, 0, 0, 0, []),
  (27, .invokevirtual 55, 3, 15, 13, 258, 0, []),
  (30, .aload_n 0, 1, 0, 0, 0, 0, []),
  (31, .getfield 27, 3, 1, 53, 101, 0, []),
  (34, .iload_n 1, 1, 0, 0, 0, 0, []),
  (35, .iaload, 1, 0, 0, 0, 0, []),
  (36, .invokestatic 105, 3, 2, 17, 299, 0, []),
  (39, .ireturn, 1, 0, 0, 0, 0, [])]
def rm_X2_addsOf : rv_M := (yX2_addsOf, cX2_addsOf, 3, some .int, 1, 2, 43, rc_X2_addsOf)
def rc_X2_smelledBy : rv_C := [
  (0, .aload_n 0, 1, 0, 0, 0, 0, []),
  (1, .getfield 21, 3, 1, 33, 97, 0, []),
  (4, .iload_n 1, 1, 0, 0, 0, 0, []),
  (5, .iaload, 1, 0, 0, 0, 0, []),
  (6, .istore_n 2, 1, 0, 0, 0, 0, []),
  (7, .aload_n 0, 1, 0, 0, 0, 0, []),
  (8, .getfield 18, 3, 1, 23, 95, 0, []),
  (11, .iload_n 1, 1, 0, 0, 0, 0, []),
  (12, .iaload, 1, 0, 0, 0, 0, []),
  (13, .invokestatic 109, 3, 4, 5, 318, 0, []),
  (16, .istore_n 3, 1, 0, 0, 0, 0, []),
  (17, .aload_n 0, 1, 0, 0, 0, 0, []),
  (18, .iload_n 2, 1, 0, 0, 0, 0, []),
  (19, .invokevirtual 112, 3, 17, 9, 319, 0, []),
  (22, .istore 4, 2, 0, 0, 0, 0, []),
  (24, .iconst 0, 1, 0, 0, 0, 0, []),
  (25, .istore 5, 2, 0, 0, 0, 0, []),
  (27, .iconst 0, 1, 0, 0, 0, 0, []),
  (28, .istore 6, 2, 0, 0, 0, 0, []),
  (30, .iload 6, 2, 0, 0, 0, 0, [7, 8]),
  (32, .iconst 4, 1, 0, 0, 0, 4, []),
  (33, .if_icmp .ge 57, 3, 0, 0, 0, 0, []),
  (36, .aload_n 0, 1, 0, 0, 0, 0, []),
  (37, .iload_n 2, 1, 0, 0, 0, 0, []),
  (38, .iload 6, 2, 0, 0, 0, 0, []),
  (40, .invokevirtual 55, 3, 15, 13, 258, 0, []),
  (43, .istore 7, 2, 0, 0, 0, 0, []),
  (45, .iload 4, 2, 0, 0, 0, 0, []),
  (47, .iload 7, 2, 0, 0, 0, 0, []),
  (49, .isub, 1, 0, 0, 0, 0, []),
  (50, .bipush 8, 2, 0, 0, 0, 8, []),
  (52, .idiv, 1, 0, 0, 0, 0, []),
  (53, .istore 8, 2, 0, 0, 0, 0, []),
  (55, .iload 6, 2, 0, 0, 0, 0, []),
  (57, .aload_n 0, 1, 0, 0, 0, 0, []),
  (58, .getfield 24, 3, 1, 43, 99, 0, []),
  (61, .iload_n 1, 1, 0, 0, 0, 0, []),
  (62, .iaload, 1, 0, 0, 0, 0, []),
  (63, .if_icmp .eq 21, 3, 0, 0, 0, 0, []),
  (66, .iload 7, 2, 0, 0, 0, 0, []),
  (68, .iload_n 3, 1, 0, 0, 0, 0, []),
  (69, .iload 8, 2, 0, 0, 0, 0, []),
  (71, .iadd, 1, 0, 0, 0, 0, []),
  (72, .if_icmp .lt 12, 3, 0, 0, 0, 0, []),
  (75, .iload 5, 2, 0, 0, 0, 0, []),
  (77, .iconst 1, 1, 0, 0, 0, 1, []),
  (78, .iload 6, 2, 0, 0, 0, 0, []),
  (80, .ishl, 1, 0, 0, 0, 0, []),
  (81, .ior, 1, 0, 0, 0, 0, []),
  (82, .istore 5, 2, 0, 0, 0, 0, []),
  (84, .iinc 6 1, 3, 0, 0, 0, 1, []),
  (87, .goto (-57), 3, 0, 0, 0, 0, []),
  (90, .iload 5, 2, 0, 0, 0, 0, []),
  (92, .ireturn, 1, 0, 0, 0, 0, [])]
def rm_X2_smelledBy : rv_M := (yX2_smelledBy, cX2_smelledBy, 9, some .int, 1, 2, 45, rc_X2_smelledBy)
def rc_X2_whoIsIn : rv_C := [
  (0, .iconst 0, 1, 0, 0, 0, 0, []),
  (1, .istore_n 2, 1, 0, 0, 0, 0, []),
  (2, .iconst 0, 1, 0, 0, 0, 0, []),
  (3, .istore_n 3, 1, 0, 0, 0, 0, []),
  (4, .iload_n 3, 1, 0, 0, 0, 0, []),
  (5, .aload_n 0, 1, 0, 0, 0, 0, []),
  (6, .getfield 33, 3, 1, 71, 105, 0, []),
  (9, .if_icmp .ge 25, 3, 0, 0, 0, 0, []),
  (12, .aload_n 0, 1, 0, 0, 0, 0, []),
  (13, .getfield 21, 3, 1, 33, 97, 0, []),
  (16, .iload_n 3, 1, 0, 0, 0, 0, []),
  (17, .iaload, 1, 0, 0, 0, 0, []),
  (18, .iload_n 1, 1, 0, 0, 0, 0, []),
  (19, .if_icmp .ne 9, 3, 0, 0, 0, 0, []),
  (22, .iload_n 2, 1, 0, 0, 0, 0, []),
  (23, .iconst 1, 1, 0, 0, 0, 1, []),
  (24, .iload_n 3, 1, 0, 0, 0, 0, []),
  (25, .ishl, 1, 0, 0, 0, 0, []),
  (26, .ior, 1, 0, 0, 0, 0, []),
  (27, .istore_n 2, 1, 0, 0, 0, 0, []),
  (28, .iinc 3 1, 3, 0, 0, 0, 1, []),
  (31, .goto (-27), 3, 0, 0, 0, 0, []),
  (34, .iload_n 2, 1, 0, 0, 0, 0, []),
  (35, .ireturn, 1, 0, 0, 0, 0, [])]
def rm_X2_whoIsIn : rv_M := (yX2_whoIsIn, cX2_whoIsIn, 4, some .int, 1, 0, 0, rc_X2_whoIsIn)
def rc_X2_whoKnow : rv_C := [
  (0, .iconst 0, 1, 0, 0, 0, 0, []),
  (1, .istore_n 2, 1, 0, 0, 0, 0, []),
  (2, .iconst 0, 1, 0, 0, 0, 0, []),
  (3, .istore_n 3, 1, 0, 0, 0, 0, []),
  (4, .iload_n 3, 1, 0, 0, 0, 0, []),
  (5, .aload_n 0, 1, 0, 0, 0, 0, []),
  (6, .getfield 33, 3, 1, 71, 105, 0, []),
  (9, .if_icmp .ge 24, 3, 0, 0, 0, 0, []),
  (12, .iload_n 2, 1, 0, 0, 0, 0, []),
  (13, .aload_n 0, 1, 0, 0, 0, 0, []),
  (14, .getfield 27, 3, 1, 53, 101, 0, []),
  (17, .iload_n 3, 1, 0, 0, 0, 0, []),
  (18, .iaload, 1, 0, 0, 0, 0, []),
  (19, .iload_n 1, 1, 0, 0, 0, 0, []),
  (20, .ishr, 1, 0, 0, 0, 0, []),
  (21, .iconst 1, 1, 0, 0, 0, 1, []),
  (22, .iand, 1, 0, 0, 0, 0, []),
  (23, .iload_n 3, 1, 0, 0, 0, 0, []),
  (24, .ishl, 1, 0, 0, 0, 0, []),
  (25, .ior, 1, 0, 0, 0, 0, []),
  (26, .istore_n 2, 1, 0, 0, 0, 0, []),
  (27, .iinc 3 1, 3, 0, 0, 0, 1, []),
  (30, .goto (-26), 3, 0, 0, 0, 0, []),
  (33, .iload_n 2, 1, 0, 0, 0, 0, []),
  (34, .ireturn, 1, 0, 0, 0, 0, [])]
def rm_X2_whoKnow : rv_M := (yX2_whoKnow, cX2_whoKnow, 4, some .int, 1, 0, 0, rc_X2_whoKnow)
def rc_X2_whoKnowAll : rv_C := [
  (0, .iconst 0, 1, 0, 0, 0, 0, []),
  (1, .istore_n 1, 1, 0, 0, 0, 0, []),
  (2, .iconst 0, 1, 0, 0, 0, 0, []),
  (3, .istore_n 2, 1, 0, 0, 0, 0, []),
  (4, .iload_n 2, 1, 0, 0, 0, 0, []),
  (5, .aload_n 0, 1, 0, 0, 0, 0, []),
  (6, .getfield 33, 3, 1, 71, 105, 0, []),
  (9, .if_icmp .ge 35, 3, 0, 0, 0, 0, []),
  (12, .aload_n 0, 1, 0, 0, 0, 0, []),
  (13, .getfield 27, 3, 1, 53, 101, 0, []),
  (16, .iload_n 2, 1, 0, 0, 0, 0, []),
  (17, .iaload, 1, 0, 0, 0, 0, []),
  (18, .iconst 1, 1, 0, 0, 0, 1, []),
  (19, .aload_n 0, 1, 0, 0, 0, 0, []),
  (20, .getfield 24, 3, 1, 43, 99, 0, []),
  (23, .iload_n 2, 1, 0, 0, 0, 0, []),
  (24, .iaload, 1, 0, 0, 0, 0, []),
  (25, .ishl, 1, 0, 0, 0, 0, []),
  (26, .ior, 1, 0, 0, 0, 0, []),
  (27, .bipush 15, 2, 0, 0, 0, 15, []),
  (29, .if_icmp .ne 9, 3, 0, 0, 0, 0, []),
  (32, .iload_n 1, 1, 0, 0, 0, 0, []),
  (33, .iconst 1, 1, 0, 0, 0, 1, []),
  (34, .iload_n 2, 1, 0, 0, 0, 0, []),
  (35, .ishl, 1, 0, 0, 0, 0, []),
  (36, .ior, 1, 0, 0, 0, 0, []),
  (37, .istore_n 1, 1, 0, 0, 0, 0, []),
  (38, .iinc 2 1, 3, 0, 0, 0, 1, []),
  (41, .goto (-37), 3, 0, 0, 0, 0, []),
  (44, .iload_n 1, 1, 0, 0, 0, 0, []),
  (45, .ireturn, 1, 0, 0, 0, 0, [])]
def rm_X2_whoKnowAll : rv_M := (yX2_whoKnowAll, cX2_whoKnowAll, 3, some .int, 1, 0, 0, rc_X2_whoKnowAll)
def rc_X2_whoAreUnknown : rv_C := [
  (0, .iconst 0, 1, 0, 0, 0, 0, []),
  (1, .istore_n 1, 1, 0, 0, 0, 0, []),
  (2, .iconst 0, 1, 0, 0, 0, 0, []),
  (3, .istore_n 2, 1, 0, 0, 0, 0, []),
  (4, .iload_n 2, 1, 0, 0, 0, 0, [3]),
  (5, .aload_n 0, 1, 0, 0, 0, 0, []),
  (6, .getfield 33, 3, 1, 71, 105, 0, []),
  (9, .if_icmp .ge 34, 3, 0, 0, 0, 0, []),
  (12, .iconst 1, 1, 0, 0, 0, 1, []),
  (13, .iload_n 2, 1, 0, 0, 0, 0, []),
  (14, .ishl, 1, 0, 0, 0, 0, []),
  (15, .istore_n 3, 1, 0, 0, 0, 0, []),
  (16, .aload_n 0, 1, 0, 0, 0, 0, []),
  (17, .aload_n 0, 1, 0, 0, 0, 0, []),
  (18, .getfield 24, 3, 1, 43, 99, 0, []),
  (21, .iload_n 2, 1, 0, 0, 0, 0, []),
  (22, .iaload, 1, 0, 0, 0, 0, []),
  (23, .invokevirtual 115, 3, 29, 9, 402, 0, []),
  (26, .iload_n 3, 1, 0, 0, 0, 0, []),
  (27, .iconst (-1), 1, 0, 0, 0, -1, []),
  (28, .ixor, 1, 0, 0, 0, 0, []),
  (29, .iand, 1, 0, 0, 0, 0, []),
  (30, .ifCond .ne 7, 3, 0, 0, 0, 0, []),
  (33, .iload_n 1, 1, 0, 0, 0, 0, []),
  (34, .iload_n 3, 1, 0, 0, 0, 0, []),
  (35, .ior, 1, 0, 0, 0, 0, []),
  (36, .istore_n 1, 1, 0, 0, 0, 0, []),
  (37, .iinc 2 1, 3, 0, 0, 0, 1, []),
  (40, .goto (-36), 3, 0, 0, 0, 0, []),
  (43, .iload_n 1, 1, 0, 0, 0, 0, []),
  (44, .ireturn, 1, 0, 0, 0, 0, [])]
def rm_X2_whoAreUnknown : rv_M := (yX2_whoAreUnknown, cX2_whoAreUnknown, 4, some .int, 1, 1, 23, rc_X2_whoAreUnknown)
def rc_X2_knownPairs : rv_C := [
  (0, .iconst 0, 1, 0, 0, 0, 0, []),
  (1, .istore_n 1, 1, 0, 0, 0, 0, []),
  (2, .iconst 0, 1, 0, 0, 0, 0, []),
  (3, .istore_n 2, 1, 0, 0, 0, 0, []),
  (4, .iload_n 2, 1, 0, 0, 0, 0, []),
  (5, .aload_n 0, 1, 0, 0, 0, 0, []),
  (6, .getfield 33, 3, 1, 71, 105, 0, []),
  (9, .if_icmp .ge 21, 3, 0, 0, 0, 0, []),
  (12, .iload_n 1, 1, 0, 0, 0, 0, []),
  (13, .aload_n 0, 1, 0, 0, 0, 0, []),
  (14, .getfield 27, 3, 1, 53, 101, 0, []),
  (17, .iload_n 2, 1, 0, 0, 0, 0, []),
  (18, .iaload, 1, 0, 0, 0, 0, []),
  (19, .invokestatic 118, 3, 209, 5, 724, 0, []),
  (22, .iadd, 1, 0, 0, 0, 0, []),
  (23, .istore_n 1, 1, 0, 0, 0, 0, []),
  (24, .iinc 2 1, 3, 0, 0, 0, 1, []),
  (27, .goto (-23), 3, 0, 0, 0, 0, []),
  (30, .iload_n 1, 1, 0, 0, 0, 0, []),
  (31, .ireturn, 1, 0, 0, 0, 0, [])]
def rm_X2_knownPairs : rv_M := (yX2_knownPairs, cX2_knownPairs, 3, some .int, 1, 1, 20, rc_X2_knownPairs)
def rc_X2_tubsBelow : rv_C := [
  (0, .iconst 0, 1, 0, 0, 0, 0, []),
  (1, .istore_n 2, 1, 0, 0, 0, 0, []),
  (2, .iconst 0, 1, 0, 0, 0, 0, []),
  (3, .istore_n 3, 1, 0, 0, 0, 0, []),
  (4, .iload_n 3, 1, 0, 0, 0, 0, []),
  (5, .bipush 10, 2, 0, 0, 0, 10, []),
  (7, .if_icmp .ge 25, 3, 0, 0, 0, 0, []),
  (10, .aload_n 0, 1, 0, 0, 0, 0, []),
  (11, .getfield 9, 3, 1, 3, 91, 0, []),
  (14, .iload_n 3, 1, 0, 0, 0, 0, []),
  (15, .iaload, 1, 0, 0, 0, 0, []),
  (16, .iload_n 1, 1, 0, 0, 0, 0, []),
  (17, .if_icmp .ge 9, 3, 0, 0, 0, 0, []),
  (20, .iload_n 2, 1, 0, 0, 0, 0, []),
  (21, .iconst 1, 1, 0, 0, 0, 1, []),
  (22, .iload_n 3, 1, 0, 0, 0, 0, []),
  (23, .ishl, 1, 0, 0, 0, 0, []),
  (24, .ior, 1, 0, 0, 0, 0, []),
  (25, .istore_n 2, 1, 0, 0, 0, 0, []),
  (26, .iinc 3 1, 3, 0, 0, 0, 1, []),
  (29, .goto (-25), 3, 0, 0, 0, 0, []),
  (32, .iload_n 2, 1, 0, 0, 0, 0, []),
  (33, .ireturn, 1, 0, 0, 0, 0, [])]
def rm_X2_tubsBelow : rv_M := (yX2_tubsBelow, cX2_tubsBelow, 4, some .int, 1, 0, 0, rc_X2_tubsBelow)
def rc_X2_emptyTubs : rv_C := [
  (0, .iconst 0, 1, 0, 0, 0, 0, []),
  (1, .istore_n 1, 1, 0, 0, 0, 0, []),
  (2, .iconst 0, 1, 0, 0, 0, 0, []),
  (3, .istore_n 2, 1, 0, 0, 0, 0, []),
  (4, .iload_n 2, 1, 0, 0, 0, 0, []),
  (5, .bipush 10, 2, 0, 0, 0, 10, []),
  (7, .if_icmp .ge 20, 3, 0, 0, 0, 0, []),
  (10, .aload_n 0, 1, 0, 0, 0, 0, []),
  (11, .iload_n 2, 1, 0, 0, 0, 0, []),
  (12, .invokevirtual 123, 3, 28, 9, 517, 0, []),
  (15, .ifCond .ne 6, 3, 0, 0, 0, 0, []),
  (18, .iinc 1 1, 3, 0, 0, 0, 1, []),
  (21, .iinc 2 1, 3, 0, 0, 0, 1, []),
  (24, .goto (-20), 3, 0, 0, 0, 0, []),
  (27, .iload_n 1, 1, 0, 0, 0, 0, []),
  (28, .ireturn, 1, 0, 0, 0, 0, [])]
def rm_X2_emptyTubs : rv_M := (yX2_emptyTubs, cX2_emptyTubs, 3, some .int, 1, 1, 23, rc_X2_emptyTubs)
def rc_X2_allWarmth : rv_C := [
  (0, .iconst 0, 1, 0, 0, 0, 0, []),
  (1, .istore_n 1, 1, 0, 0, 0, 0, []),
  (2, .aload_n 0, 1, 0, 0, 0, 0, []),
  (3, .getfield 9, 3, 1, 3, 91, 0, []),
  (6, .astore_n 2, 1, 0, 0, 0, 0, []),
  (7, .aload_n 2, 1, 0, 0, 0, 0, []),
  (8, .arraylength, 1, 0, 0, 0, 0, []),
  (9, .istore_n 3, 1, 0, 0, 0, 0, []),
  (10, .iconst 0, 1, 0, 0, 0, 0, []),
  (11, .istore 4, 2, 0, 0, 0, 0, []),
  (13, .iload 4, 2, 0, 0, 0, 0, [0, 5]),
  (15, .iload_n 3, 1, 0, 0, 0, 0, []),
  (16, .if_icmp .ge 20, 3, 0, 0, 0, 0, []),
  (19, .aload_n 2, 1, 0, 0, 0, 0, []),
  (20, .iload 4, 2, 0, 0, 0, 0, []),
  (22, .iaload, 1, 0, 0, 0, 0, []),
  (23, .istore 5, 2, 0, 0, 0, 0, []),
  (25, .iload_n 1, 1, 0, 0, 0, 0, []),
  (26, .iload 5, 2, 0, 0, 0, 0, []),
  (28, .iadd, 1, 0, 0, 0, 0, []),
  (29, .istore_n 1, 1, 0, 0, 0, 0, []),
  (30, .iinc 4 1, 3, 0, 0, 0, 1, []),
  (33, .goto (-20), 3, 0, 0, 0, 0, []),
  (36, .iload_n 1, 1, 0, 0, 0, 0, []),
  (37, .ireturn, 1, 0, 0, 0, 0, [])]
def rm_X2_allWarmth : rv_M := (yX2_allWarmth, cX2_allWarmth, 6, some .int, 1, 0, 0, rc_X2_allWarmth)
def rc_X2_allScents : rv_C := [
  (0, .iconst 0, 1, 0, 0, 0, 0, []),
  (1, .istore_n 1, 1, 0, 0, 0, 0, []),
  (2, .aload_n 0, 1, 0, 0, 0, 0, []),
  (3, .getfield 15, 3, 1, 13, 94, 0, []),
  (6, .astore_n 2, 1, 0, 0, 0, 0, []),
  (7, .aload_n 2, 1, 0, 0, 0, 0, []),
  (8, .arraylength, 1, 0, 0, 0, 0, []),
  (9, .istore_n 3, 1, 0, 0, 0, 0, []),
  (10, .iconst 0, 1, 0, 0, 0, 0, []),
  (11, .istore 4, 2, 0, 0, 0, 0, []),
  (13, .iload 4, 2, 0, 0, 0, 0, [0, 5]),
  (15, .iload_n 3, 1, 0, 0, 0, 0, []),
  (16, .if_icmp .ge 20, 3, 0, 0, 0, 0, []),
  (19, .aload_n 2, 1, 0, 0, 0, 0, []),
  (20, .iload 4, 2, 0, 0, 0, 0, []),
  (22, .iaload, 1, 0, 0, 0, 0, []),
  (23, .istore 5, 2, 0, 0, 0, 0, []),
  (25, .iload_n 1, 1, 0, 0, 0, 0, []),
  (26, .iload 5, 2, 0, 0, 0, 0, []),
  (28, .iadd, 1, 0, 0, 0, 0, []),
  (29, .istore_n 1, 1, 0, 0, 0, 0, []),
  (30, .iinc 4 1, 3, 0, 0, 0, 1, []),
  (33, .goto (-20), 3, 0, 0, 0, 0, []),
  (36, .iload_n 1, 1, 0, 0, 0, 0, []),
  (37, .ireturn, 1, 0, 0, 0, 0, [])]
def rm_X2_allScents : rv_M := (yX2_allScents, cX2_allScents, 6, some .int, 1, 0, 0, rc_X2_allScents)
def rc_X2_heldSpots : rv_C := [
  (0, .iconst 0, 1, 0, 0, 0, 0, []),
  (1, .istore_n 1, 1, 0, 0, 0, 0, []),
  (2, .aload_n 0, 1, 0, 0, 0, 0, []),
  (3, .getfield 30, 3, 1, 63, 103, 0, []),
  (6, .astore_n 2, 1, 0, 0, 0, 0, []),
  (7, .aload_n 2, 1, 0, 0, 0, 0, []),
  (8, .arraylength, 1, 0, 0, 0, 0, []),
  (9, .istore_n 3, 1, 0, 0, 0, 0, []),
  (10, .iconst 0, 1, 0, 0, 0, 0, []),
  (11, .istore 4, 2, 0, 0, 0, 0, []),
  (13, .iload 4, 2, 0, 0, 0, 0, [0, 5]),
  (15, .iload_n 3, 1, 0, 0, 0, 0, []),
  (16, .if_icmp .ge 24, 3, 0, 0, 0, 0, []),
  (19, .aload_n 2, 1, 0, 0, 0, 0, []),
  (20, .iload 4, 2, 0, 0, 0, 0, []),
  (22, .iaload, 1, 0, 0, 0, 0, []),
  (23, .istore 5, 2, 0, 0, 0, 0, []),
  (25, .iload 5, 2, 0, 0, 0, 0, []),
  (27, .iconst (-1), 1, 0, 0, 0, -1, []),
  (28, .if_icmp .eq 6, 3, 0, 0, 0, 0, []),
  (31, .iinc 1 1, 3, 0, 0, 0, 1, []),
  (34, .iinc 4 1, 3, 0, 0, 0, 1, []),
  (37, .goto (-24), 3, 0, 0, 0, 0, []),
  (40, .iload_n 1, 1, 0, 0, 0, 0, []),
  (41, .ireturn, 1, 0, 0, 0, 0, [])]
def rm_X2_heldSpots : rv_M := (yX2_heldSpots, cX2_heldSpots, 6, some .int, 1, 0, 0, rc_X2_heldSpots)
def rc_X3_readText : rv_C := [
  (0, .aload_n 0, 1, 0, 0, 0, 0, []),
  (1, .aload_n 1, 1, 0, 0, 0, 0, []),
  (2, .putfield 9, 3, 2, 3, 150, 0, []),
  (5, .aload_n 0, 1, 0, 0, 0, 0, []),
  (6, .iload_n 2, 1, 0, 0, 0, 0, []),
  (7, .aload_n 1, 1, 0, 0, 0, 0, []),
  (8, .arraylength, 1, 0, 0, 0, 0, []),
  (9, .invokestatic 31, 3, 9997, 0, 542, 0, []),
  (12, .putfield 15, 3, 2, 11, 151, 0, []),
  (15, .aload_n 0, 1, 0, 0, 0, 0, []),
  (16, .iconst 0, 1, 0, 0, 0, 0, []),
  (17, .putfield 25, 3, 2, 41, 154, 0, []),
  (20, .aload_n 0, 1, 0, 0, 0, 0, []),
  (21, .invokevirtual 37, 3, 47, 4, 543, 0, []),
  (24, .iconst 1, 1, 0, 0, 0, 1, []),
  (25, .istore 4, 2, 0, 0, 0, 0, []),
  (27, .iload 4, 2, 0, 0, 0, 0, [1, 2]),
  (29, .aload_n 0, 1, 0, 0, 0, 0, []),
  (30, .getfield 15, 3, 2, 11, 151, 0, []),
  (33, .if_icmp .gt 45, 3, 0, 0, 0, 0, []),
  (36, .aload_n 0, 1, 0, 0, 0, 0, []),
  (37, .aload_n 3, 1, 0, 0, 0, 0, []),
  (38, .invokevirtual 40, 3, 39, 9, 557, 0, []),
  (41, .ifCond .ne 6, 3, 0, 0, 0, 0, []),
  (44, .goto 34, 3, 0, 0, 0, 0, []),
  (47, .aload_n 0, 1, 0, 0, 0, 0, []),
  (48, .getfield 19, 3, 2, 21, 152, 0, []),
  (51, .ifCond .ne 6, 3, 0, 0, 0, 0, []),
  (54, .iload 4, 2, 0, 0, 0, 0, []),
  (56, .ireturn, 1, 0, 0, 0, 0, []),
  (57, .aload_n 0, 1, 0, 0, 0, 0, []),
  (58, .getfield 19, 3, 2, 21, 152, 0, []),
  (61, .iconst 3, 1, 0, 0, 0, 3, []),
  (62, .if_icmp .eq 6, 3, 0, 0, 0, 0, []),
  (65, .goto 13, 3, 0, 0, 0, 0, []),
  (68, .aload_n 0, 1, 0, 0, 0, 0, []),
  (69, .invokevirtual 37, 3, 47, 4, 543, 0, []),
  (72, .iinc 4 1, 3, 0, 0, 0, 1, []),
  (75, .goto (-48), 3, 0, 0, 0, 0, []),
  (78, .iconst (-1), 1, 0, 0, 0, -1, []),
  (79, .aload_n 0, 1, 0, 0, 0, 0, []),
  (80, .getfield 22, 3, 2, 31, 153, 0, []),
  (83, .isub, 1, 0, 0, 0, 0, []),
  (84, .ireturn, 1, 0, 0, 0, 0, [])]
def rm_X3_readText : rv_M := (yX3_readText, cX3_readText, 5, some .int, 2, 8, 177, rc_X3_readText)
def rc_X3_readItem : rv_C := [
  (0, .aload_n 0, 1, 0, 0, 0, 0, []),
  (1, .invokevirtual 44, 3, 42, 5, 561, 0, []),
  (4, .istore_n 2, 1, 0, 0, 0, 0, []),
  (5, .iload_n 2, 1, 0, 0, 0, 0, []),
  (6, .ifCond .lt 10, 3, 0, 0, 0, 0, []),
  (9, .aload_n 0, 1, 0, 0, 0, 0, []),
  (10, .aload_n 1, 1, 0, 0, 0, 0, []),
  (11, .iload_n 2, 1, 0, 0, 0, 0, []),
  (12, .invokevirtual 48, 3, 40, 13, 627, 0, []),
  (15, .ireturn, 1, 1, 0, 0, 0, []),
  (16, .aload_n 0, 1, 0, 0, 0, 0, []),
  (17, .ldc 52, 2, 1, 10, 644, 0, []),
  (19, .invokevirtual 54, 3, 45, 9, 633, 0, []),
  (22, .ifCond .eq 9, 3, 0, 0, 0, 0, []),
  (25, .aload_n 0, 1, 0, 0, 0, 0, []),
  (26, .aload_n 1, 1, 0, 0, 0, 0, []),
  (27, .invokevirtual 58, 3, 41, 9, 645, 0, []),
  (30, .ireturn, 1, 1, 0, 0, 0, []),
  (31, .aload_n 0, 1, 0, 0, 0, 0, []),
  (32, .ldc 61, 2, 1, 12, 651, 0, []),
  (34, .invokevirtual 54, 3, 45, 9, 633, 0, []),
  (37, .ifCond .eq 29, 3, 0, 0, 0, 0, []),
  (40, .aload_n 0, 1, 0, 0, 0, 0, []),
  (41, .bipush 99, 2, 0, 0, 0, 99, []),
  (43, .invokevirtual 63, 3, 46, 9, 637, 0, []),
  (46, .istore_n 3, 1, 0, 0, 0, 0, []),
  (47, .iload_n 3, 1, 0, 0, 0, 0, []),
  (48, .ifCond .lt 8, 3, 0, 0, 0, 0, []),
  (51, .aload_n 1, 1, 0, 0, 0, 0, []),
  (52, .iload_n 3, 1, 0, 0, 0, 0, []),
  (53, .putfield 67, 3, 1, 81, 108, 0, []),
  (56, .iload_n 3, 1, 0, 0, 0, 0, [0, 1, 2]),
  (57, .ifCond .lt 7, 3, 0, 0, 0, 0, []),
  (60, .iconst 1, 1, 0, 0, 0, 1, []),
  (61, .goto 4, 3, 0, 0, 0, 0, []),
  (64, .iconst 0, 1, 0, 0, 0, 0, []),
  (65, .ireturn, 1, 1, 0, 0, 0, []),
  (66, .aload_n 0, 1, 0, 0, 0, 0, []),
  (67, .ldc 72, 2, 1, 13, 652, 0, []),
  (69, .invokevirtual 54, 3, 45, 9, 633, 0, []),
  (72, .ifCond .eq 29, 3, 0, 0, 0, 0, []),
  (75, .aload_n 0, 1, 0, 0, 0, 0, []),
  (76, .bipush 9, 2, 0, 0, 0, 9, []),
  (78, .invokevirtual 63, 3, 46, 9, 637, 0, []),
  (81, .istore_n 3, 1, 0, 0, 0, 0, []),
  (82, .iload_n 3, 1, 0, 0, 0, 0, []),
  (83, .ifCond .lt 8, 3, 0, 0, 0, 0, []),
  (86, .aload_n 1, 1, 0, 0, 0, 0, []),
  (87, .iload_n 3, 1, 0, 0, 0, 0, []),
  (88, .invokevirtual 74, 3, 18, 8, 653, 0, []),
  (91, .iload_n 3, 1, 0, 0, 0, 0, [0, 1, 2]),
  (92, .ifCond .lt 7, 3, 0, 0, 0, 0, []),
  (95, .iconst 1, 1, 0, 0, 0, 1, []),
  (96, .goto 4, 3, 0, 0, 0, 0, []),
  (99, .iconst 0, 1, 0, 0, 0, 0, []),
  (100, .ireturn, 1, 1, 0, 0, 0, []),
  (101, .iconst 0, 1, 0, 0, 0, 0, []),
  (102, .ireturn, 1, 1, 0, 0, 0, [])]
def rm_X3_readItem : rv_M := (yX3_readItem, cX3_readItem, 4, some .boolean, 2, 7, 154, rc_X3_readItem)
def rc_X3_readBather : rv_C := [
  (0, .aload_n 1, 1, 0, 0, 0, 0, []),
  (1, .invokevirtual 78, 3, 11, 5, 631, 0, []),
  (4, .ifCond .eq 5, 3, 0, 0, 0, 0, []),
  (7, .iconst 0, 1, 0, 0, 0, 0, []),
  (8, .ireturn, 1, 1, 0, 0, 0, []),
  (9, .aload_n 0, 1, 0, 0, 0, 0, []),
  (10, .invokevirtual 37, 3, 47, 4, 543, 0, []),
  (13, .aload_n 0, 1, 0, 0, 0, 0, []),
  (14, .ldc 82, 2, 1, 7, 632, 0, []),
  (16, .invokevirtual 54, 3, 45, 9, 633, 0, []),
  (19, .ifCond .eq 12, 3, 0, 0, 0, 0, []),
  (22, .aload_n 0, 1, 0, 0, 0, 0, []),
  (23, .bipush 9, 2, 0, 0, 0, 9, []),
  (25, .invokevirtual 63, 3, 46, 9, 637, 0, []),
  (28, .goto 4, 3, 0, 0, 0, 0, []),
  (31, .iconst 0, 1, 0, 0, 0, 0, []),
  (32, .istore_n 3, 1, 0, 0, 0, 0, []),
  (33, .iload_n 3, 1, 0, 0, 0, 0, []),
  (34, .ifCond .ge 5, 3, 0, 0, 0, 0, []),
  (37, .iconst 0, 1, 0, 0, 0, 0, []),
  (38, .ireturn, 1, 1, 0, 0, 0, []),
  (39, .aload_n 0, 1, 0, 0, 0, 0, []),
  (40, .ldc 84, 2, 1, 8, 641, 0, []),
  (42, .invokevirtual 54, 3, 45, 9, 633, 0, []),
  (45, .ifCond .eq 11, 3, 0, 0, 0, 0, []),
  (48, .aload_n 0, 1, 0, 0, 0, 0, []),
  (49, .iconst 3, 1, 0, 0, 0, 3, []),
  (50, .invokevirtual 63, 3, 46, 9, 637, 0, []),
  (53, .goto 4, 3, 0, 0, 0, 0, []),
  (56, .iconst 0, 1, 0, 0, 0, 0, []),
  (57, .istore 4, 2, 0, 0, 0, 0, []),
  (59, .iload 4, 2, 0, 0, 0, 0, []),
  (61, .ifCond .ge 5, 3, 0, 0, 0, 0, []),
  (64, .iconst 0, 1, 0, 0, 0, 0, []),
  (65, .ireturn, 1, 1, 0, 0, 0, []),
  (66, .aload_n 0, 1, 0, 0, 0, 0, []),
  (67, .ldc 86, 2, 1, 9, 642, 0, []),
  (69, .invokevirtual 54, 3, 45, 9, 633, 0, []),
  (72, .ifCond .eq 12, 3, 0, 0, 0, 0, []),
  (75, .aload_n 0, 1, 0, 0, 0, 0, []),
  (76, .bipush 15, 2, 0, 0, 0, 15, []),
  (78, .invokevirtual 63, 3, 46, 9, 637, 0, []),
  (81, .goto 4, 3, 0, 0, 0, 0, []),
  (84, .iconst 0, 1, 0, 0, 0, 0, []),
  (85, .istore 5, 2, 0, 0, 0, 0, [0]),
  (87, .iload 5, 2, 0, 0, 0, 0, []),
  (89, .ifCond .ge 5, 3, 0, 0, 0, 0, []),
  (92, .iconst 0, 1, 0, 0, 0, 0, []),
  (93, .ireturn, 1, 1, 0, 0, 0, []),
  (94, .aload_n 1, 1, 0, 0, 0, 0, []),
  (95, .iload_n 2, 1, 0, 0, 0, 0, []),
  (96, .iload_n 3, 1, 0, 0, 0, 0, []),
  (97, .iload 4, 2, 0, 0, 0, 0, []),
  (99, .iload 5, 2, 0, 0, 0, 0, []),
  (101, .invokevirtual 88, 3, 12, 21, 643, 0, []),
  (104, .pop, 1, 0, 0, 0, 0, []),
  (105, .iconst 1, 1, 0, 0, 0, 1, []),
  (106, .ireturn, 1, 1, 0, 0, 0, [])]
def rm_X3_readBather : rv_M := (yX3_readBather, cX3_readBather, 6, some .boolean, 2, 6, 129, rc_X3_readBather)
def rc_X3_readTub : rv_C := [
  (0, .aload_n 0, 1, 0, 0, 0, 0, []),
  (1, .bipush 9, 2, 0, 0, 0, 9, []),
  (3, .invokevirtual 63, 3, 46, 9, 637, 0, []),
  (6, .istore_n 2, 1, 0, 0, 0, 0, []),
  (7, .iload_n 2, 1, 0, 0, 0, 0, []),
  (8, .ifCond .ge 5, 3, 0, 0, 0, 0, []),
  (11, .iconst 0, 1, 0, 0, 0, 0, []),
  (12, .ireturn, 1, 1, 0, 0, 0, []),
  (13, .aload_n 0, 1, 0, 0, 0, 0, []),
  (14, .bipush 99, 2, 0, 0, 0, 99, []),
  (16, .invokevirtual 63, 3, 46, 9, 637, 0, []),
  (19, .istore_n 3, 1, 0, 0, 0, 0, []),
  (20, .iload_n 3, 1, 0, 0, 0, 0, []),
  (21, .ifCond .ge 5, 3, 0, 0, 0, 0, []),
  (24, .iconst 0, 1, 0, 0, 0, 0, []),
  (25, .ireturn, 1, 1, 0, 0, 0, []),
  (26, .aload_n 1, 1, 0, 0, 0, 0, []),
  (27, .getfield 92, 3, 1, 3, 93, 0, []),
  (30, .iload_n 2, 1, 0, 0, 0, 0, []),
  (31, .iload_n 3, 1, 0, 0, 0, 0, []),
  (32, .iastore, 1, 0, 0, 0, 0, []),
  (33, .aload_n 0, 1, 0, 0, 0, 0, []),
  (34, .ldc 96, 2, 1, 11, 649, 0, []),
  (36, .invokevirtual 54, 3, 45, 9, 633, 0, []),
  (39, .ifCond .ne 5, 3, 0, 0, 0, 0, []),
  (42, .iconst 1, 1, 0, 0, 0, 1, []),
  (43, .ireturn, 1, 1, 0, 0, 0, []),
  (44, .aload_n 0, 1, 0, 0, 0, 0, []),
  (45, .iconst 3, 1, 0, 0, 0, 3, []),
  (46, .invokevirtual 63, 3, 46, 9, 637, 0, []),
  (49, .istore 4, 2, 0, 0, 0, 0, []),
  (51, .iload 4, 2, 0, 0, 0, 0, []),
  (53, .ifCond .ge 5, 3, 0, 0, 0, 0, []),
  (56, .iconst 0, 1, 0, 0, 0, 0, []),
  (57, .ireturn, 1, 1, 0, 0, 0, []),
  (58, .aload_n 0, 1, 0, 0, 0, 0, []),
  (59, .sipush 9999, 3, 0, 0, 0, 9999, []),
  (62, .invokevirtual 63, 3, 46, 9, 637, 0, []),
  (65, .istore 5, 2, 0, 0, 0, 0, []),
  (67, .iload 5, 2, 0, 0, 0, 0, []),
  (69, .ifCond .ge 5, 3, 0, 0, 0, 0, []),
  (72, .iconst 0, 1, 0, 0, 0, 0, []),
  (73, .ireturn, 1, 1, 0, 0, 0, []),
  (74, .aload_n 1, 1, 0, 0, 0, 0, []),
  (75, .iload_n 2, 1, 0, 0, 0, 0, []),
  (76, .iload 4, 2, 0, 0, 0, 0, []),
  (78, .iload 5, 2, 0, 0, 0, 0, []),
  (80, .invokevirtual 98, 3, 16, 16, 650, 0, []),
  (83, .iconst 1, 1, 0, 0, 0, 1, []),
  (84, .ireturn, 1, 1, 0, 0, 0, [])]
def rm_X3_readTub : rv_M := (yX3_readTub, cX3_readTub, 6, some .boolean, 2, 6, 129, rc_X3_readTub)
def rc_X3_kindAtHand : rv_C := [
  (0, .iconst 0, 1, 0, 0, 0, 0, []),
  (1, .istore_n 1, 1, 0, 0, 0, 0, []),
  (2, .iload_n 1, 1, 0, 0, 0, 0, []),
  (3, .bipush 7, 2, 0, 0, 0, 7, []),
  (5, .if_icmp .ge 22, 3, 0, 0, 0, 0, []),
  (8, .aload_n 0, 1, 0, 0, 0, 0, []),
  (9, .iload_n 1, 1, 0, 0, 0, 0, []),
  (10, .invokestatic 104, 3, 43, 7, 565, 0, []),
  (13, .invokevirtual 108, 3, 44, 9, 575, 0, []),
  (16, .ifCond .eq 5, 3, 0, 0, 0, 0, []),
  (19, .iload_n 1, 1, 0, 0, 0, 0, []),
  (20, .ireturn, 1, 0, 0, 0, 0, []),
  (21, .iinc 1 1, 3, 0, 0, 0, 1, []),
  (24, .goto (-22), 3, 0, 0, 0, 0, []),
  (27, .iconst (-1), 1, 0, 0, 0, -1, []),
  (28, .ireturn, 1, 0, 0, 0, 0, [])]
def rm_X3_kindAtHand : rv_M := (yX3_kindAtHand, cX3_kindAtHand, 2, some .int, 2, 5, 107, rc_X3_kindAtHand)
def rc_X3_kindWord : rv_C := [
  (0, .iload_n 0, 1, 0, 0, 0, 0, []),
  (1, .tableswitch 57 1 6 #[39, 42, 45, 48, 51, 54], 39, 0, 0, 0, 0, []),
  (40, .ldc 111, 2, 1, 0, 568, 0, []),
  (42, .areturn, 1, 0, 0, 0, 0, []),
  (43, .ldc 113, 2, 1, 1, 569, 0, []),
  (45, .areturn, 1, 0, 0, 0, 0, []),
  (46, .ldc 115, 2, 1, 2, 570, 0, []),
  (48, .areturn, 1, 0, 0, 0, 0, []),
  (49, .ldc 117, 2, 1, 3, 571, 0, []),
  (51, .areturn, 1, 0, 0, 0, 0, []),
  (52, .ldc 119, 2, 1, 4, 572, 0, []),
  (54, .areturn, 1, 0, 0, 0, 0, []),
  (55, .ldc 121, 2, 1, 5, 573, 0, []),
  (57, .areturn, 1, 0, 0, 0, 0, []),
  (58, .ldc 123, 2, 1, 6, 574, 0, []),
  (60, .areturn, 1, 0, 0, 0, 0, [])]
def rm_X3_kindWord : rv_M := (yX3_kindWord, cX3_kindWord, 1, some (.object "java/lang/String"), 99, 0, 0, rc_X3_kindWord)
def rc_X3_isAtHand : rv_C := [
  (0, .aload_n 0, 1, 0, 0, 0, 0, []),
  (1, .getfield 19, 3, 2, 21, 152, 0, []),
  (4, .iconst 1, 1, 0, 0, 0, 1, []),
  (5, .if_icmp .ne 19, 3, 0, 0, 0, 0, []),
  (8, .aload_n 0, 1, 0, 0, 0, 0, []),
  (9, .getfield 25, 3, 2, 41, 154, 0, []),
  (12, .aload_n 0, 1, 0, 0, 0, 0, []),
  (13, .getfield 22, 3, 2, 31, 153, 0, []),
  (16, .isub, 1, 0, 0, 0, 0, []),
  (17, .aload_n 1, 1, 0, 0, 0, 0, []),
  (18, .invokevirtual 125, 3, 210, 5, 579, 0, []),
  (21, .if_icmp .eq 5, 3, 0, 0, 0, 0, []),
  (24, .iconst 0, 1, 0, 0, 0, 0, []),
  (25, .ireturn, 1, 1, 0, 0, 0, []),
  (26, .iconst 0, 1, 0, 0, 0, 0, []),
  (27, .istore_n 2, 1, 0, 0, 0, 0, []),
  (28, .iload_n 2, 1, 0, 0, 0, 0, []),
  (29, .aload_n 1, 1, 0, 0, 0, 0, []),
  (30, .invokevirtual 125, 3, 210, 5, 579, 0, []),
  (33, .if_icmp .ge 29, 3, 0, 0, 0, 0, []),
  (36, .aload_n 0, 1, 0, 0, 0, 0, []),
  (37, .aload_n 0, 1, 0, 0, 0, 0, []),
  (38, .getfield 22, 3, 2, 31, 153, 0, []),
  (41, .iload_n 2, 1, 0, 0, 0, 0, []),
  (42, .iadd, 1, 0, 0, 0, 0, []),
  (43, .invokevirtual 129, 3, 48, 9, 547, 0, []),
  (46, .aload_n 1, 1, 0, 0, 0, 0, []),
  (47, .iload_n 2, 1, 0, 0, 0, 0, []),
  (48, .invokevirtual 132, 3, 211, 9, 589, 0, []),
  (51, .if_icmp .eq 5, 3, 0, 0, 0, 0, []),
  (54, .iconst 0, 1, 0, 0, 0, 0, []),
  (55, .ireturn, 1, 1, 0, 0, 0, []),
  (56, .iinc 2 1, 3, 0, 0, 0, 1, []),
  (59, .goto (-31), 3, 0, 0, 0, 0, []),
  (62, .iconst 1, 1, 0, 0, 0, 1, []),
  (63, .ireturn, 1, 1, 0, 0, 0, [])]
def rm_X3_isAtHand : rv_M := (yX3_isAtHand, cX3_isAtHand, 3, some .boolean, 2, 4, 85, rc_X3_isAtHand)
def rc_X3_passWord : rv_C := [
  (0, .aload_n 0, 1, 0, 0, 0, 0, []),
  (1, .aload_n 1, 1, 0, 0, 0, 0, []),
  (2, .invokevirtual 108, 3, 44, 9, 575, 0, []),
  (5, .istore_n 2, 1, 0, 0, 0, 0, []),
  (6, .iload_n 2, 1, 0, 0, 0, 0, []),
  (7, .ifCond .eq 7, 3, 0, 0, 0, 0, []),
  (10, .aload_n 0, 1, 0, 0, 0, 0, []),
  (11, .invokevirtual 37, 3, 47, 4, 543, 0, []),
  (14, .iload_n 2, 1, 0, 0, 0, 0, []),
  (15, .ireturn, 1, 1, 0, 0, 0, [])]
def rm_X3_passWord : rv_M := (yX3_passWord, cX3_passWord, 3, some .boolean, 2, 5, 107, rc_X3_passWord)
def rc_X3_passNumber : rv_C := [
  (0, .aload_n 0, 1, 0, 0, 0, 0, []),
  (1, .getfield 19, 3, 2, 21, 152, 0, []),
  (4, .iconst 2, 1, 0, 0, 0, 2, []),
  (5, .if_icmp .ne 11, 3, 0, 0, 0, 0, []),
  (8, .aload_n 0, 1, 0, 0, 0, 0, []),
  (9, .getfield 28, 3, 2, 51, 155, 0, []),
  (12, .iload_n 1, 1, 0, 0, 0, 0, []),
  (13, .if_icmp .le 5, 3, 0, 0, 0, 0, []),
  (16, .iconst (-1), 1, 0, 0, 0, -1, []),
  (17, .ireturn, 1, 0, 0, 0, 0, []),
  (18, .aload_n 0, 1, 0, 0, 0, 0, []),
  (19, .getfield 28, 3, 2, 51, 155, 0, []),
  (22, .istore_n 2, 1, 0, 0, 0, 0, []),
  (23, .aload_n 0, 1, 0, 0, 0, 0, []),
  (24, .invokevirtual 37, 3, 47, 4, 543, 0, []),
  (27, .iload_n 2, 1, 0, 0, 0, 0, []),
  (28, .ireturn, 1, 0, 0, 0, 0, [])]
def rm_X3_passNumber : rv_M := (yX3_passNumber, cX3_passNumber, 3, some .int, 2, 2, 42, rc_X3_passNumber)
def rc_X3_readToken : rv_C := [
  (0, .aload_n 0, 1, 0, 0, 0, 0, []),
  (1, .aload_n 0, 1, 0, 0, 0, 0, []),
  (2, .getfield 25, 3, 2, 41, 154, 0, []),
  (5, .putfield 22, 3, 2, 31, 153, 0, []),
  (8, .aload_n 0, 1, 0, 0, 0, 0, []),
  (9, .getfield 22, 3, 2, 31, 153, 0, []),
  (12, .aload_n 0, 1, 0, 0, 0, 0, []),
  (13, .getfield 15, 3, 2, 11, 151, 0, []),
  (16, .if_icmp .ge 29, 3, 0, 0, 0, 0, []),
  (19, .aload_n 0, 1, 0, 0, 0, 0, []),
  (20, .aload_n 0, 1, 0, 0, 0, 0, []),
  (21, .getfield 22, 3, 2, 31, 153, 0, []),
  (24, .invokevirtual 129, 3, 48, 9, 547, 0, []),
  (27, .bipush 32, 2, 0, 0, 0, 32, []),
  (29, .if_icmp .ne 16, 3, 0, 0, 0, 0, []),
  (32, .aload_n 0, 1, 0, 0, 0, 0, []),
  (33, .dup, 1, 0, 0, 0, 0, []),
  (34, .getfield 22, 3, 2, 31, 153, 0, []),
  (37, .iconst 1, 1, 0, 0, 0, 1, []),
  (38, .iadd, 1, 0, 0, 0, 0, []),
  (39, .putfield 22, 3, 2, 31, 153, 0, []),
  (42, .goto (-34), 3, 0, 0, 0, 0, []),
  (45, .aload_n 0, 1, 0, 0, 0, 0, []),
  (46, .aload_n 0, 1, 0, 0, 0, 0, []),
  (47, .getfield 22, 3, 2, 31, 153, 0, []),
  (50, .putfield 25, 3, 2, 41, 154, 0, []),
  (53, .aload_n 0, 1, 0, 0, 0, 0, []),
  (54, .aload_n 0, 1, 0, 0, 0, 0, []),
  (55, .getfield 22, 3, 2, 31, 153, 0, []),
  (58, .invokevirtual 129, 3, 48, 9, 547, 0, []),
  (61, .istore_n 1, 1, 0, 0, 0, 0, []),
  (62, .aload_n 0, 1, 0, 0, 0, 0, []),
  (63, .getfield 22, 3, 2, 31, 153, 0, []),
  (66, .aload_n 0, 1, 0, 0, 0, 0, []),
  (67, .getfield 15, 3, 2, 11, 151, 0, []),
  (70, .if_icmp .lt 11, 3, 0, 0, 0, 0, []),
  (73, .aload_n 0, 1, 0, 0, 0, 0, []),
  (74, .iconst 0, 1, 0, 0, 0, 0, []),
  (75, .putfield 19, 3, 2, 21, 152, 0, []),
  (78, .goto 162, 3, 0, 0, 0, 0, []),
  (81, .iload_n 1, 1, 0, 0, 0, 0, []),
  (82, .invokestatic 136, 3, 49, 5, 551, 0, []),
  (85, .ifCond .eq 46, 3, 0, 0, 0, 0, []),
  (88, .aload_n 0, 1, 0, 0, 0, 0, []),
  (89, .iconst 1, 1, 0, 0, 0, 1, []),
  (90, .putfield 19, 3, 2, 21, 152, 0, []),
  (93, .aload_n 0, 1, 0, 0, 0, 0, [1]),
  (94, .getfield 25, 3, 2, 41, 154, 0, []),
  (97, .aload_n 0, 1, 0, 0, 0, 0, []),
  (98, .getfield 15, 3, 2, 11, 151, 0, []),
  (101, .if_icmp .ge 139, 3, 0, 0, 0, 0, []),
  (104, .aload_n 0, 1, 0, 0, 0, 0, []),
  (105, .aload_n 0, 1, 0, 0, 0, 0, []),
  (106, .getfield 25, 3, 2, 41, 154, 0, []),
  (109, .invokevirtual 129, 3, 48, 9, 547, 0, []),
  (112, .invokestatic 136, 3, 49, 5, 551, 0, []),
  (115, .ifCond .eq 125, 3, 0, 0, 0, 0, []),
  (118, .aload_n 0, 1, 0, 0, 0, 0, []),
  (119, .dup, 1, 0, 0, 0, 0, []),
  (120, .getfield 25, 3, 2, 41, 154, 0, []),
  (123, .iconst 1, 1, 0, 0, 0, 1, []),
  (124, .iadd, 1, 0, 0, 0, 0, []),
  (125, .putfield 25, 3, 2, 41, 154, 0, []),
  (128, .goto (-35), 3, 0, 0, 0, 0, []),
  (131, .iload_n 1, 1, 0, 0, 0, 0, []),
  (132, .invokestatic 140, 3, 50, 5, 554, 0, []),
  (135, .ifCond .eq 80, 3, 0, 0, 0, 0, []),
  (138, .aload_n 0, 1, 0, 0, 0, 0, []),
  (139, .iconst 2, 1, 0, 0, 0, 2, []),
  (140, .putfield 19, 3, 2, 21, 152, 0, []),
  (143, .aload_n 0, 1, 0, 0, 0, 0, []),
  (144, .iconst 0, 1, 0, 0, 0, 0, []),
  (145, .putfield 28, 3, 2, 51, 155, 0, []),
  (148, .aload_n 0, 1, 0, 0, 0, 0, [1]),
  (149, .getfield 25, 3, 2, 41, 154, 0, []),
  (152, .aload_n 0, 1, 0, 0, 0, 0, []),
  (153, .getfield 15, 3, 2, 11, 151, 0, []),
  (156, .if_icmp .ge 84, 3, 0, 0, 0, 0, []),
  (159, .aload_n 0, 1, 0, 0, 0, 0, []),
  (160, .aload_n 0, 1, 0, 0, 0, 0, []),
  (161, .getfield 25, 3, 2, 41, 154, 0, []),
  (164, .invokevirtual 129, 3, 48, 9, 547, 0, []),
  (167, .invokestatic 140, 3, 50, 5, 554, 0, []),
  (170, .ifCond .eq 70, 3, 0, 0, 0, 0, []),
  (173, .aload_n 0, 1, 0, 0, 0, 0, []),
  (174, .aload_n 0, 1, 0, 0, 0, 0, []),
  (175, .getfield 28, 3, 2, 51, 155, 0, []),
  (178, .bipush 10, 2, 0, 0, 0, 10, []),
  (180, .imul, 1, 0, 0, 0, 0, []),
  (181, .aload_n 0, 1, 0, 0, 0, 0, []),
  (182, .aload_n 0, 1, 0, 0, 0, 0, []),
  (183, .getfield 25, 3, 2, 41, 154, 0, []),
  (186, .invokevirtual 129, 3, 48, 9, 547, 0, []),
  (189, .iadd, 1, 0, 0, 0, 0, []),
  (190, .bipush 48, 2, 0, 0, 0, 48, []),
  (192, .isub, 1, 0, 0, 0, 0, []),
  (193, .sipush 10000, 3, 0, 0, 0, 10000, []),
  (196, .invokestatic 31, 3, 9997, 0, 542, 0, []),
  (199, .putfield 28, 3, 2, 51, 155, 0, []),
  (202, .aload_n 0, 1, 0, 0, 0, 0, []),
  (203, .dup, 1, 0, 0, 0, 0, []),
  (204, .getfield 25, 3, 2, 41, 154, 0, []),
  (207, .iconst 1, 1, 0, 0, 0, 1, []),
  (208, .iadd, 1, 0, 0, 0, 0, []),
  (209, .putfield 25, 3, 2, 41, 154, 0, []),
  (212, .goto (-64), 3, 0, 0, 0, 0, []),
  (215, .aload_n 0, 1, 0, 0, 0, 0, []),
  (216, .iload_n 1, 1, 0, 0, 0, 0, []),
  (217, .bipush 59, 2, 0, 0, 0, 59, []),
  (219, .if_icmp .ne 7, 3, 0, 0, 0, 0, []),
  (222, .iconst 3, 1, 0, 0, 0, 3, []),
  (223, .goto 4, 3, 0, 0, 0, 0, []),
  (226, .iconst 4, 1, 0, 0, 0, 4, []),
  (227, .putfield 19, 3, 2, 21, 152, 0, []),
  (230, .aload_n 0, 1, 0, 0, 0, 0, []),
  (231, .dup, 1, 0, 0, 0, 0, []),
  (232, .getfield 25, 3, 2, 41, 154, 0, []),
  (235, .iconst 1, 1, 0, 0, 0, 1, []),
  (236, .iadd, 1, 0, 0, 0, 0, []),
  (237, .putfield 25, 3, 2, 41, 154, 0, []),
  (240, .return_, 1, 0, 0, 0, 0, [])]
def rm_X3_readToken : rv_M := (yX3_readToken, cX3_readToken, 2, none, 2, 1, 21, rc_X3_readToken)
def rc_X3_byteAt : rv_C := [
  (0, .iload_n 1, 1, 0, 0, 0, 0, []),
  (1, .ifCond .lt 20, 3, 0, 0, 0, 0, []),
  (4, .iload_n 1, 1, 0, 0, 0, 0, []),
  (5, .aload_n 0, 1, 0, 0, 0, 0, []),
  (6, .getfield 15, 3, 2, 11, 151, 0, []),
  (9, .if_icmp .ge 12, 3, 0, 0, 0, 0, []),
  (12, .aload_n 0, 1, 0, 0, 0, 0, []),
  (13, .getfield 9, 3, 2, 3, 150, 0, []),
  (16, .iload_n 1, 1, 0, 0, 0, 0, []),
  (17, .baload, 1, 0, 0, 0, 0, []),
  (18, .goto 4, 3, 0, 0, 0, 0, []),
  (21, .iconst (-1), 1, 0, 0, 0, -1, []),
  (22, .ireturn, 1, 0, 0, 0, 0, [])]
def rm_X3_byteAt : rv_M := (yX3_byteAt, cX3_byteAt, 2, some .int, 2, 0, 0, rc_X3_byteAt)
def rc_X3_isLetter : rv_C := [
  (0, .iload_n 0, 1, 0, 0, 0, 0, []),
  (1, .bipush 97, 2, 0, 0, 0, 97, []),
  (3, .if_icmp .lt 13, 3, 0, 0, 0, 0, []),
  (6, .iload_n 0, 1, 0, 0, 0, 0, []),
  (7, .bipush 122, 2, 0, 0, 0, 122, []),
  (9, .if_icmp .gt 7, 3, 0, 0, 0, 0, []),
  (12, .iconst 1, 1, 0, 0, 0, 1, []),
  (13, .goto 4, 3, 0, 0, 0, 0, []),
  (16, .iconst 0, 1, 0, 0, 0, 0, []),
  (17, .ireturn, 1, 1, 0, 0, 0, [])]
def rm_X3_isLetter : rv_M := (yX3_isLetter, cX3_isLetter, 1, some .boolean, 99, 0, 0, rc_X3_isLetter)
def rc_X3_isDigit : rv_C := [
  (0, .iload_n 0, 1, 0, 0, 0, 0, []),
  (1, .bipush 48, 2, 0, 0, 0, 48, []),
  (3, .if_icmp .lt 13, 3, 0, 0, 0, 0, []),
  (6, .iload_n 0, 1, 0, 0, 0, 0, []),
  (7, .bipush 57, 2, 0, 0, 0, 57, []),
  (9, .if_icmp .gt 7, 3, 0, 0, 0, 0, []),
  (12, .iconst 1, 1, 0, 0, 0, 1, []),
  (13, .goto 4, 3, 0, 0, 0, 0, []),
  (16, .iconst 0, 1, 0, 0, 0, 0, []),
  (17, .ireturn, 1, 1, 0, 0, 0, [])]
def rm_X3_isDigit : rv_M := (yX3_isDigit, cX3_isDigit, 1, some .boolean, 99, 0, 0, rc_X3_isDigit)
def rc_X4_warm : rv_C := [
  (0, .iload_n 1, 1, 0, 0, 0, 0, []),
  (1, .invokestatic 52, 3, 97, 5, 220, 0, []),
  (4, .ifCond .eq 12, 3, 0, 0, 0, 0, []),
  (7, .iload_n 2, 1, 0, 0, 0, 0, []),
  (8, .bipush 99, 2, 0, 0, 0, 99, []),
  (10, .invokestatic 56, 3, 96, 9, 223, 0, []),
  (13, .ifCond .ne 9, 3, 0, 0, 0, 0, []),
  (16, .aload_n 0, 1, 0, 0, 0, 0, []),
  (17, .iconst 0, 1, 0, 0, 0, 0, []),
  (18, .invokevirtual 60, 3, 95, 9, 226, 0, []),
  (21, .ireturn, 1, 0, 0, 0, 0, []),
  (22, .aload_n 0, 1, 0, 0, 0, 0, []),
  (23, .getfield 12, 3, 3, 3, 188, 0, []),
  (26, .getfield 64, 3, 1, 3, 92, 0, []),
  (29, .iload_n 1, 1, 0, 0, 0, 0, []),
  (30, .iaload, 1, 0, 0, 0, 0, []),
  (31, .istore_n 3, 1, 0, 0, 0, 0, []),
  (32, .aload_n 0, 1, 0, 0, 0, 0, []),
  (33, .getfield 12, 3, 3, 3, 188, 0, []),
  (36, .getfield 64, 3, 1, 3, 92, 0, []),
  (39, .iload_n 1, 1, 0, 0, 0, 0, []),
  (40, .iload_n 2, 1, 0, 0, 0, 0, []),
  (41, .iastore, 1, 0, 0, 0, 0, []),
  (42, .iload_n 3, 1, 0, 0, 0, 0, []),
  (43, .ireturn, 1, 0, 0, 0, 0, [])]
def rm_X4_warm : rv_M := (yX4_warm, cX4_warm, 4, some .int, 3, 1, 21, rc_X4_warm)
def rc_X4_scent : rv_C := [
  (0, .iload_n 1, 1, 0, 0, 0, 0, []),
  (1, .invokestatic 52, 3, 97, 5, 220, 0, []),
  (4, .ifCond .eq 20, 3, 0, 0, 0, 0, []),
  (7, .iload_n 2, 1, 0, 0, 0, 0, []),
  (8, .invokestatic 67, 3, 98, 5, 235, 0, []),
  (11, .ifCond .eq 13, 3, 0, 0, 0, 0, []),
  (14, .iload_n 3, 1, 0, 0, 0, 0, []),
  (15, .sipush 9999, 3, 0, 0, 0, 9999, []),
  (18, .invokestatic 56, 3, 96, 9, 223, 0, []),
  (21, .ifCond .ne 9, 3, 0, 0, 0, 0, []),
  (24, .aload_n 0, 1, 0, 0, 0, 0, []),
  (25, .iconst 0, 1, 0, 0, 0, 0, []),
  (26, .invokevirtual 60, 3, 95, 9, 226, 0, []),
  (29, .ireturn, 1, 0, 0, 0, 0, []),
  (30, .aload_n 0, 1, 0, 0, 0, 0, []),
  (31, .getfield 12, 3, 3, 3, 188, 0, []),
  (34, .iload_n 1, 1, 0, 0, 0, 0, []),
  (35, .iload_n 2, 1, 0, 0, 0, 0, []),
  (36, .invokevirtual 70, 3, 15, 13, 238, 0, []),
  (39, .istore 4, 2, 0, 0, 0, 0, []),
  (41, .aload_n 0, 1, 0, 0, 0, 0, []),
  (42, .getfield 12, 3, 3, 3, 188, 0, []),
  (45, .iload_n 1, 1, 0, 0, 0, 0, []),
  (46, .iload_n 2, 1, 0, 0, 0, 0, []),
  (47, .iload_n 3, 1, 0, 0, 0, 0, []),
  (48, .invokevirtual 74, 3, 16, 16, 242, 0, []),
  (51, .iload 4, 2, 0, 0, 0, 0, []),
  (53, .ireturn, 1, 0, 0, 0, 0, [])]
def rm_X4_scent : rv_M := (yX4_scent, cX4_scent, 5, some .int, 3, 1, 23, rc_X4_scent)
def rc_X4_tub : rv_C := [
  (0, .iload_n 1, 1, 0, 0, 0, 0, []),
  (1, .invokestatic 52, 3, 97, 5, 220, 0, []),
  (4, .ifCond .eq 12, 3, 0, 0, 0, 0, []),
  (7, .iload_n 2, 1, 0, 0, 0, 0, []),
  (8, .bipush 6, 2, 0, 0, 0, 6, []),
  (10, .invokestatic 56, 3, 96, 9, 223, 0, []),
  (13, .ifCond .ne 9, 3, 0, 0, 0, 0, []),
  (16, .aload_n 0, 1, 0, 0, 0, 0, []),
  (17, .iconst 0, 1, 0, 0, 0, 0, []),
  (18, .invokevirtual 60, 3, 95, 9, 226, 0, []),
  (21, .ireturn, 1, 0, 0, 0, 0, []),
  (22, .iload_n 2, 1, 0, 0, 0, 0, []),
  (23, .tableswitch 53 4 6 #[25, 35, 44], 25, 0, 0, 0, 0, []),
  (48, .aload_n 0, 1, 0, 0, 0, 0, []),
  (49, .getfield 12, 3, 3, 3, 188, 0, []),
  (52, .getfield 64, 3, 1, 3, 92, 0, []),
  (55, .iload_n 1, 1, 0, 0, 0, 0, []),
  (56, .iaload, 1, 0, 0, 0, 0, []),
  (57, .ireturn, 1, 0, 0, 0, 0, []),
  (58, .aload_n 0, 1, 0, 0, 0, 0, []),
  (59, .getfield 12, 3, 3, 3, 188, 0, []),
  (62, .iload_n 1, 1, 0, 0, 0, 0, []),
  (63, .invokevirtual 78, 3, 28, 9, 250, 0, []),
  (66, .ireturn, 1, 0, 0, 0, 0, []),
  (67, .aload_n 0, 1, 0, 0, 0, 0, []),
  (68, .getfield 12, 3, 3, 3, 188, 0, []),
  (71, .iload_n 1, 1, 0, 0, 0, 0, []),
  (72, .invokevirtual 81, 3, 17, 9, 254, 0, []),
  (75, .ireturn, 1, 0, 0, 0, 0, []),
  (76, .aload_n 0, 1, 0, 0, 0, 0, []),
  (77, .getfield 12, 3, 3, 3, 188, 0, []),
  (80, .iload_n 1, 1, 0, 0, 0, 0, []),
  (81, .iload_n 2, 1, 0, 0, 0, 0, []),
  (82, .invokevirtual 70, 3, 15, 13, 238, 0, []),
  (85, .ireturn, 1, 0, 0, 0, 0, [])]
def rm_X4_tub : rv_M := (yX4_tub, cX4_tub, 3, some .int, 3, 2, 45, rc_X4_tub)
def rc_X4_fresh : rv_C := [
  (0, .iload_n 1, 1, 0, 0, 0, 0, []),
  (1, .bipush 99, 2, 0, 0, 0, 99, []),
  (3, .invokestatic 56, 3, 96, 9, 223, 0, []),
  (6, .ifCond .ne 9, 3, 0, 0, 0, 0, []),
  (9, .aload_n 0, 1, 0, 0, 0, 0, []),
  (10, .iconst 0, 1, 0, 0, 0, 0, []),
  (11, .invokevirtual 60, 3, 95, 9, 226, 0, []),
  (14, .ireturn, 1, 0, 0, 0, 0, []),
  (15, .aload_n 0, 1, 0, 0, 0, 0, []),
  (16, .getfield 12, 3, 3, 3, 188, 0, []),
  (19, .getfield 84, 3, 1, 81, 109, 0, []),
  (22, .istore_n 2, 1, 0, 0, 0, 0, []),
  (23, .aload_n 0, 1, 0, 0, 0, 0, []),
  (24, .getfield 12, 3, 3, 3, 188, 0, []),
  (27, .iload_n 1, 1, 0, 0, 0, 0, []),
  (28, .putfield 84, 3, 1, 81, 109, 0, []),
  (31, .iload_n 2, 1, 0, 0, 0, 0, []),
  (32, .ireturn, 1, 0, 0, 0, 0, [])]
def rm_X4_fresh : rv_M := (yX4_fresh, cX4_fresh, 3, some .int, 3, 1, 21, rc_X4_fresh)
def rc_X4_plug : rv_C := [
  (0, .iload_n 1, 1, 0, 0, 0, 0, []),
  (1, .invokestatic 52, 3, 97, 5, 220, 0, []),
  (4, .ifCond .ne 9, 3, 0, 0, 0, 0, []),
  (7, .aload_n 0, 1, 0, 0, 0, 0, []),
  (8, .iconst 0, 1, 0, 0, 0, 0, []),
  (9, .invokevirtual 60, 3, 95, 9, 226, 0, []),
  (12, .ireturn, 1, 0, 0, 0, 0, []),
  (13, .aload_n 0, 1, 0, 0, 0, 0, []),
  (14, .getfield 12, 3, 3, 3, 188, 0, []),
  (17, .iload_n 1, 1, 0, 0, 0, 0, []),
  (18, .invokevirtual 81, 3, 17, 9, 254, 0, []),
  (21, .istore_n 2, 1, 0, 0, 0, 0, []),
  (22, .aload_n 0, 1, 0, 0, 0, 0, []),
  (23, .getfield 12, 3, 3, 3, 188, 0, []),
  (26, .iload_n 1, 1, 0, 0, 0, 0, []),
  (27, .invokevirtual 87, 3, 18, 8, 267, 0, []),
  (30, .iload_n 2, 1, 0, 0, 0, 0, []),
  (31, .ireturn, 1, 0, 0, 0, 0, [])]
def rm_X4_plug : rv_M := (yX4_plug, cX4_plug, 3, some .int, 3, 2, 45, rc_X4_plug)
def rc_X4_bather : rv_C := [
  (0, .iload_n 1, 1, 0, 0, 0, 0, []),
  (1, .invokestatic 91, 3, 0, 5, 276, 0, []),
  (4, .ifCond .eq 10, 3, 0, 0, 0, 0, []),
  (7, .iload_n 2, 1, 0, 0, 0, 0, []),
  (8, .invokestatic 52, 3, 97, 5, 220, 0, []),
  (11, .ifCond .ne 9, 3, 0, 0, 0, 0, []),
  (14, .aload_n 0, 1, 0, 0, 0, 0, []),
  (15, .iconst 0, 1, 0, 0, 0, 0, []),
  (16, .invokevirtual 60, 3, 95, 9, 226, 0, []),
  (19, .ireturn, 1, 0, 0, 0, 0, []),
  (20, .aload_n 0, 1, 0, 0, 0, 0, []),
  (21, .getfield 12, 3, 3, 3, 188, 0, []),
  (24, .invokevirtual 96, 3, 11, 5, 279, 0, []),
  (27, .ifCond .eq 9, 3, 0, 0, 0, 0, []),
  (30, .aload_n 0, 1, 0, 0, 0, 0, []),
  (31, .iconst 1, 1, 0, 0, 0, 1, []),
  (32, .invokevirtual 60, 3, 95, 9, 226, 0, []),
  (35, .ireturn, 1, 0, 0, 0, 0, []),
  (36, .aload_n 0, 1, 0, 0, 0, 0, []),
  (37, .getfield 12, 3, 3, 3, 188, 0, []),
  (40, .iload_n 1, 1, 0, 0, 0, 0, []),
  (41, .iload_n 2, 1, 0, 0, 0, 0, []),
  (42, .iconst 0, 1, 0, 0, 0, 0, []),
  (43, .iconst 0, 1, 0, 0, 0, 0, []),
  (44, .invokevirtual 100, 3, 12, 21, 283, 0, []),
  (47, .ireturn, 1, 0, 0, 0, 0, [])]
def rm_X4_bather : rv_M := (yX4_bather, cX4_bather, 3, some .int, 3, 1, 25, rc_X4_bather)
def rc_X4_of : rv_C := [
  (0, .aload_n 0, 1, 0, 0, 0, 0, []),
  (1, .getfield 12, 3, 3, 3, 188, 0, []),
  (4, .iload_n 1, 1, 0, 0, 0, 0, []),
  (5, .invokevirtual 104, 3, 10, 9, 291, 0, []),
  (8, .ifCond .eq 12, 3, 0, 0, 0, 0, []),
  (11, .iload_n 2, 1, 0, 0, 0, 0, []),
  (12, .bipush 7, 2, 0, 0, 0, 7, []),
  (14, .invokestatic 56, 3, 96, 9, 223, 0, []),
  (17, .ifCond .ne 9, 3, 0, 0, 0, 0, []),
  (20, .aload_n 0, 1, 0, 0, 0, 0, []),
  (21, .iconst 0, 1, 0, 0, 0, 0, []),
  (22, .invokevirtual 60, 3, 95, 9, 226, 0, []),
  (25, .ireturn, 1, 0, 0, 0, 0, []),
  (26, .iload_n 2, 1, 0, 0, 0, 0, []),
  (27, .tableswitch 116 0 6 #[41, 51, 61, 71, 81, 90, 103], 41, 0, 0, 0, 0, []),
  (68, .aload_n 0, 1, 0, 0, 0, 0, []),
  (69, .getfield 12, 3, 3, 3, 188, 0, []),
  (72, .getfield 107, 3, 1, 23, 96, 0, []),
  (75, .iload_n 1, 1, 0, 0, 0, 0, []),
  (76, .iaload, 1, 0, 0, 0, 0, []),
  (77, .ireturn, 1, 0, 0, 0, 0, []),
  (78, .aload_n 0, 1, 0, 0, 0, 0, []),
  (79, .getfield 12, 3, 3, 3, 188, 0, []),
  (82, .getfield 110, 3, 1, 33, 98, 0, []),
  (85, .iload_n 1, 1, 0, 0, 0, 0, []),
  (86, .iaload, 1, 0, 0, 0, 0, []),
  (87, .ireturn, 1, 0, 0, 0, 0, []),
  (88, .aload_n 0, 1, 0, 0, 0, 0, []),
  (89, .getfield 12, 3, 3, 3, 188, 0, []),
  (92, .getfield 113, 3, 1, 43, 100, 0, []),
  (95, .iload_n 1, 1, 0, 0, 0, 0, []),
  (96, .iaload, 1, 0, 0, 0, 0, []),
  (97, .ireturn, 1, 0, 0, 0, 0, []),
  (98, .aload_n 0, 1, 0, 0, 0, 0, []),
  (99, .getfield 12, 3, 3, 3, 188, 0, []),
  (102, .getfield 116, 3, 1, 53, 102, 0, []),
  (105, .iload_n 1, 1, 0, 0, 0, 0, []),
  (106, .iaload, 1, 0, 0, 0, 0, []),
  (107, .ireturn, 1, 0, 0, 0, 0, []),
  (108, .aload_n 0, 1, 0, 0, 0, 0, []),
  (109, .getfield 12, 3, 3, 3, 188, 0, []),
  (112, .iload_n 1, 1, 0, 0, 0, 0, []),
  (113, .invokevirtual 119, 3, 26, 9, 295, 0, []),
  (116, .ireturn, 1, 0, 0, 0, 0, []),
  (117, .aload_n 0, 1, 0, 0, 0, 0, []),
  (118, .getfield 12, 3, 3, 3, 188, 0, []),
  (121, .getfield 107, 3, 1, 23, 96, 0, []),
  (124, .iload_n 1, 1, 0, 0, 0, 0, []),
  (125, .iaload, 1, 0, 0, 0, 0, []),
  (126, .invokestatic 122, 3, 3, 5, 308, 0, []),
  (129, .ireturn, 1, 0, 0, 0, 0, []),
  (130, .aload_n 0, 1, 0, 0, 0, 0, []),
  (131, .getfield 12, 3, 3, 3, 188, 0, []),
  (134, .getfield 107, 3, 1, 23, 96, 0, []),
  (137, .iload_n 1, 1, 0, 0, 0, 0, []),
  (138, .iaload, 1, 0, 0, 0, 0, []),
  (139, .invokestatic 125, 3, 4, 5, 311, 0, []),
  (142, .ireturn, 1, 0, 0, 0, 0, []),
  (143, .aload_n 0, 1, 0, 0, 0, 0, []),
  (144, .getfield 12, 3, 3, 3, 188, 0, []),
  (147, .iload_n 1, 1, 0, 0, 0, 0, []),
  (148, .invokevirtual 128, 3, 27, 9, 314, 0, []),
  (151, .ireturn, 1, 0, 0, 0, 0, [])]
def rm_X4_of : rv_M := (yX4_of, cX4_of, 3, some .int, 3, 3, 73, rc_X4_of)
def rc_X4_change : rv_C := [
  (0, .aload_n 0, 1, 0, 0, 0, 0, []),
  (1, .getfield 12, 3, 3, 3, 188, 0, []),
  (4, .iload_n 1, 1, 0, 0, 0, 0, []),
  (5, .invokevirtual 104, 3, 10, 9, 291, 0, []),
  (8, .ifCond .eq 22, 3, 0, 0, 0, 0, []),
  (11, .iload_n 2, 1, 0, 0, 0, 0, []),
  (12, .iconst 3, 1, 0, 0, 0, 3, []),
  (13, .invokestatic 56, 3, 96, 9, 223, 0, []),
  (16, .ifCond .eq 14, 3, 0, 0, 0, 0, []),
  (19, .iload_n 3, 1, 0, 0, 0, 0, []),
  (20, .iload_n 2, 1, 0, 0, 0, 0, []),
  (21, .invokestatic 131, 3, 101, 5, 324, 0, []),
  (24, .invokestatic 56, 3, 96, 9, 223, 0, []),
  (27, .ifCond .ne 9, 3, 0, 0, 0, 0, []),
  (30, .aload_n 0, 1, 0, 0, 0, 0, []),
  (31, .iconst 0, 1, 0, 0, 0, 0, []),
  (32, .invokevirtual 60, 3, 95, 9, 226, 0, []),
  (35, .ireturn, 1, 0, 0, 0, 0, []),
  (36, .aload_n 0, 1, 0, 0, 0, 0, []),
  (37, .getfield 12, 3, 3, 3, 188, 0, []),
  (40, .iload_n 2, 1, 0, 0, 0, 0, []),
  (41, .invokevirtual 134, 3, 13, 11, 327, 0, []),
  (44, .astore 4, 2, 0, 0, 0, 0, []),
  (46, .aload 4, 2, 0, 0, 0, 0, []),
  (48, .iload_n 1, 1, 0, 0, 0, 0, []),
  (49, .iaload, 1, 0, 0, 0, 0, []),
  (50, .istore 5, 2, 0, 0, 0, 0, []),
  (52, .aload 4, 2, 0, 0, 0, 0, []),
  (54, .iload_n 1, 1, 0, 0, 0, 0, []),
  (55, .iload_n 3, 1, 0, 0, 0, 0, []),
  (56, .iastore, 1, 0, 0, 0, 0, []),
  (57, .iload 5, 2, 0, 0, 0, 0, []),
  (59, .ireturn, 1, 0, 0, 0, 0, [])]
def rm_X4_change : rv_M := (yX4_change, cX4_change, 6, some .int, 3, 1, 21, rc_X4_change)
def rc_X4_swap : rv_C := [
  (0, .aload_n 0, 1, 0, 0, 0, 0, []),
  (1, .getfield 12, 3, 3, 3, 188, 0, []),
  (4, .iload_n 1, 1, 0, 0, 0, 0, []),
  (5, .invokevirtual 104, 3, 10, 9, 291, 0, []),
  (8, .ifCond .eq 19, 3, 0, 0, 0, 0, []),
  (11, .aload_n 0, 1, 0, 0, 0, 0, []),
  (12, .getfield 12, 3, 3, 3, 188, 0, []),
  (15, .iload_n 2, 1, 0, 0, 0, 0, []),
  (16, .invokevirtual 104, 3, 10, 9, 291, 0, []),
  (19, .ifCond .eq 8, 3, 0, 0, 0, 0, []),
  (22, .iload_n 1, 1, 0, 0, 0, 0, []),
  (23, .iload_n 2, 1, 0, 0, 0, 0, []),
  (24, .if_icmp .ne 9, 3, 0, 0, 0, 0, []),
  (27, .aload_n 0, 1, 0, 0, 0, 0, []),
  (28, .iconst 0, 1, 0, 0, 0, 0, []),
  (29, .invokevirtual 60, 3, 95, 9, 226, 0, []),
  (32, .ireturn, 1, 0, 0, 0, 0, []),
  (33, .aload_n 0, 1, 0, 0, 0, 0, []),
  (34, .getfield 12, 3, 3, 3, 188, 0, []),
  (37, .getfield 110, 3, 1, 33, 98, 0, []),
  (40, .iload_n 1, 1, 0, 0, 0, 0, []),
  (41, .iaload, 1, 0, 0, 0, 0, []),
  (42, .aload_n 0, 1, 0, 0, 0, 0, []),
  (43, .getfield 12, 3, 3, 3, 188, 0, []),
  (46, .getfield 110, 3, 1, 33, 98, 0, []),
  (49, .iload_n 2, 1, 0, 0, 0, 0, []),
  (50, .iaload, 1, 0, 0, 0, 0, []),
  (51, .if_icmp .eq 7, 3, 0, 0, 0, 0, []),
  (54, .iconst 1, 1, 0, 0, 0, 1, []),
  (55, .goto 4, 3, 0, 0, 0, 0, []),
  (58, .iconst 0, 1, 0, 0, 0, 0, []),
  (59, .istore_n 3, 1, 0, 0, 0, 0, []),
  (60, .aload_n 0, 1, 0, 0, 0, 0, []),
  (61, .getfield 12, 3, 3, 3, 188, 0, []),
  (64, .iload_n 1, 1, 0, 0, 0, 0, []),
  (65, .iload_n 2, 1, 0, 0, 0, 0, []),
  (66, .invokevirtual 138, 3, 14, 12, 335, 0, []),
  (69, .iload_n 3, 1, 0, 0, 0, 0, []),
  (70, .ifCond .eq 7, 3, 0, 0, 0, 0, []),
  (73, .iconst 1, 1, 0, 0, 0, 1, []),
  (74, .goto 4, 3, 0, 0, 0, 0, []),
  (77, .iconst 0, 1, 0, 0, 0, 0, []),
  (78, .ireturn, 1, 0, 0, 0, 0, [])]
def rm_X4_swap : rv_M := (yX4_swap, cX4_swap, 4, some .int, 3, 1, 23, rc_X4_swap)
def rc_X4_go : rv_C := [
  (0, .iload_n 1, 1, 0, 0, 0, 0, []),
  (1, .iconst 1, 1, 0, 0, 0, 1, []),
  (2, .if_icmp .lt 9, 3, 0, 0, 0, 0, []),
  (5, .iload_n 1, 1, 0, 0, 0, 0, []),
  (6, .bipush 40, 2, 0, 0, 0, 40, []),
  (8, .if_icmp .le 9, 3, 0, 0, 0, 0, []),
  (11, .aload_n 0, 1, 0, 0, 0, 0, []),
  (12, .iconst 0, 1, 0, 0, 0, 0, []),
  (13, .invokevirtual 60, 3, 95, 9, 226, 0, []),
  (16, .ireturn, 1, 0, 0, 0, 0, []),
  (17, .aload_n 0, 1, 0, 0, 0, 0, []),
  (18, .getfield 12, 3, 3, 3, 188, 0, []),
  (21, .getfield 142, 3, 1, 91, 111, 0, []),
  (24, .ldc 145, 2, 0, 0, 343, 99999, []),
  (26, .iload_n 1, 1, 0, 0, 0, 0, []),
  (27, .isub, 1, 0, 0, 0, 0, []),
  (28, .if_icmp .le 9, 3, 0, 0, 0, 0, []),
  (31, .aload_n 0, 1, 0, 0, 0, 0, []),
  (32, .iconst 4, 1, 0, 0, 0, 4, []),
  (33, .invokevirtual 60, 3, 95, 9, 226, 0, []),
  (36, .ireturn, 1, 0, 0, 0, 0, []),
  (37, .aload_n 0, 1, 0, 0, 0, 0, []),
  (38, .getfield 12, 3, 3, 3, 188, 0, []),
  (41, .iload_n 1, 1, 0, 0, 0, 0, []),
  (42, .invokevirtual 146, 3, 20, 8, 344, 0, []),
  (45, .aload_n 0, 1, 0, 0, 0, 0, []),
  (46, .getfield 12, 3, 3, 3, 188, 0, []),
  (49, .getfield 64, 3, 1, 3, 92, 0, []),
  (52, .bipush 9, 2, 0, 0, 0, 9, []),
  (54, .iaload, 1, 0, 0, 0, 0, []),
  (55, .ireturn, 1, 0, 0, 0, 0, [])]
def rm_X4_go : rv_M := (yX4_go, cX4_go, 2, some .int, 3, 6, 131, rc_X4_go)
def rc_X4_now : rv_C := [
  (0, .iload_n 1, 1, 0, 0, 0, 0, []),
  (1, .iconst 5, 1, 0, 0, 0, 5, []),
  (2, .invokestatic 56, 3, 96, 9, 223, 0, []),
  (5, .ifCond .ne 9, 3, 0, 0, 0, 0, []),
  (8, .aload_n 0, 1, 0, 0, 0, 0, []),
  (9, .iconst 0, 1, 0, 0, 0, 0, []),
  (10, .invokevirtual 60, 3, 95, 9, 226, 0, []),
  (13, .ireturn, 1, 0, 0, 0, 0, []),
  (14, .iload_n 1, 1, 0, 0, 0, 0, []),
  (15, .tableswitch 75 1 5 #[33, 41, 49, 59, 67], 33, 0, 0, 0, 0, []),
  (48, .aload_n 0, 1, 0, 0, 0, 0, []),
  (49, .getfield 12, 3, 3, 3, 188, 0, []),
  (52, .invokevirtual 149, 3, 35, 5, 382, 0, []),
  (55, .ireturn, 1, 0, 0, 0, 0, []),
  (56, .aload_n 0, 1, 0, 0, 0, 0, []),
  (57, .getfield 12, 3, 3, 3, 188, 0, []),
  (60, .invokevirtual 153, 3, 36, 5, 386, 0, []),
  (63, .ireturn, 1, 0, 0, 0, 0, []),
  (64, .aload_n 0, 1, 0, 0, 0, 0, []),
  (65, .getfield 12, 3, 3, 3, 188, 0, []),
  (68, .bipush 40, 2, 0, 0, 0, 40, []),
  (70, .invokevirtual 156, 3, 33, 9, 390, 0, []),
  (73, .ireturn, 1, 0, 0, 0, 0, []),
  (74, .aload_n 0, 1, 0, 0, 0, 0, []),
  (75, .getfield 12, 3, 3, 3, 188, 0, []),
  (78, .invokevirtual 159, 3, 30, 5, 394, 0, []),
  (81, .ireturn, 1, 0, 0, 0, 0, []),
  (82, .aload_n 0, 1, 0, 0, 0, 0, []),
  (83, .getfield 12, 3, 3, 3, 188, 0, []),
  (86, .invokevirtual 162, 3, 31, 5, 398, 0, []),
  (89, .ireturn, 1, 0, 0, 0, 0, []),
  (90, .aload_n 0, 1, 0, 0, 0, 0, []),
  (91, .getfield 12, 3, 3, 3, 188, 0, []),
  (94, .getfield 142, 3, 1, 91, 111, 0, []),
  (97, .ireturn, 1, 0, 0, 0, 0, [])]
def rm_X4_now : rv_M := (yX4_now, cX4_now, 2, some .int, 3, 2, 46, rc_X4_now)
def rc_X4_ahead : rv_C := [
  (0, .iload_n 1, 1, 0, 0, 0, 0, []),
  (1, .invokestatic 52, 3, 97, 5, 220, 0, []),
  (4, .ifCond .eq 20, 3, 0, 0, 0, 0, []),
  (7, .iload_n 2, 1, 0, 0, 0, 0, []),
  (8, .iconst 4, 1, 0, 0, 0, 4, []),
  (9, .invokestatic 56, 3, 96, 9, 223, 0, []),
  (12, .ifCond .eq 12, 3, 0, 0, 0, 0, []),
  (15, .iload_n 3, 1, 0, 0, 0, 0, []),
  (16, .bipush 60, 2, 0, 0, 0, 60, []),
  (18, .invokestatic 56, 3, 96, 9, 223, 0, []),
  (21, .ifCond .ne 9, 3, 0, 0, 0, 0, []),
  (24, .aload_n 0, 1, 0, 0, 0, 0, []),
  (25, .iconst 0, 1, 0, 0, 0, 0, []),
  (26, .invokevirtual 60, 3, 95, 9, 226, 0, []),
  (29, .ireturn, 1, 0, 0, 0, 0, []),
  (30, .aload_n 0, 1, 0, 0, 0, 0, []),
  (31, .getfield 19, 3, 3, 23, 190, 0, []),
  (34, .aload_n 0, 1, 0, 0, 0, 0, []),
  (35, .getfield 12, 3, 3, 3, 188, 0, []),
  (38, .invokevirtual 165, 3, 9, 8, 410, 0, []),
  (41, .aload_n 0, 1, 0, 0, 0, 0, []),
  (42, .getfield 19, 3, 3, 23, 190, 0, []),
  (45, .iload_n 3, 1, 0, 0, 0, 0, []),
  (46, .invokevirtual 146, 3, 20, 8, 344, 0, []),
  (49, .iload_n 2, 1, 0, 0, 0, 0, []),
  (50, .iconst 4, 1, 0, 0, 0, 4, []),
  (51, .if_icmp .ne 15, 3, 0, 0, 0, 0, []),
  (54, .aload_n 0, 1, 0, 0, 0, 0, []),
  (55, .getfield 19, 3, 3, 23, 190, 0, []),
  (58, .getfield 64, 3, 1, 3, 92, 0, []),
  (61, .iload_n 1, 1, 0, 0, 0, 0, []),
  (62, .iaload, 1, 0, 0, 0, 0, []),
  (63, .goto 12, 3, 0, 0, 0, 0, []),
  (66, .aload_n 0, 1, 0, 0, 0, 0, []),
  (67, .getfield 19, 3, 3, 23, 190, 0, []),
  (70, .iload_n 1, 1, 0, 0, 0, 0, []),
  (71, .iload_n 2, 1, 0, 0, 0, 0, []),
  (72, .invokevirtual 70, 3, 15, 13, 238, 0, []),
  (75, .ireturn, 1, 0, 0, 0, 0, [])]
def rm_X4_ahead : rv_M := (yX4_ahead, cX4_ahead, 4, some .int, 3, 6, 131, rc_X4_ahead)
def rc_X4_knows : rv_C := [
  (0, .aload_n 0, 1, 0, 0, 0, 0, []),
  (1, .getfield 12, 3, 3, 3, 188, 0, []),
  (4, .iload_n 1, 1, 0, 0, 0, 0, []),
  (5, .invokevirtual 104, 3, 10, 9, 291, 0, []),
  (8, .ifCond .eq 12, 3, 0, 0, 0, 0, []),
  (11, .iload_n 2, 1, 0, 0, 0, 0, []),
  (12, .bipush 60, 2, 0, 0, 0, 60, []),
  (14, .invokestatic 56, 3, 96, 9, 223, 0, []),
  (17, .ifCond .ne 9, 3, 0, 0, 0, 0, []),
  (20, .aload_n 0, 1, 0, 0, 0, 0, []),
  (21, .iconst 0, 1, 0, 0, 0, 0, []),
  (22, .invokevirtual 60, 3, 95, 9, 226, 0, []),
  (25, .ireturn, 1, 0, 0, 0, 0, []),
  (26, .aload_n 0, 1, 0, 0, 0, 0, []),
  (27, .getfield 19, 3, 3, 23, 190, 0, []),
  (30, .aload_n 0, 1, 0, 0, 0, 0, []),
  (31, .getfield 12, 3, 3, 3, 188, 0, []),
  (34, .invokevirtual 165, 3, 9, 8, 410, 0, []),
  (37, .aload_n 0, 1, 0, 0, 0, 0, []),
  (38, .getfield 19, 3, 3, 23, 190, 0, []),
  (41, .iload_n 2, 1, 0, 0, 0, 0, []),
  (42, .invokevirtual 146, 3, 20, 8, 344, 0, []),
  (45, .aload_n 0, 1, 0, 0, 0, 0, []),
  (46, .getfield 19, 3, 3, 23, 190, 0, []),
  (49, .getfield 116, 3, 1, 53, 102, 0, []),
  (52, .iload_n 1, 1, 0, 0, 0, 0, []),
  (53, .iaload, 1, 0, 0, 0, 0, []),
  (54, .ireturn, 1, 0, 0, 0, 0, [])]
def rm_X4_knows : rv_M := (yX4_knows, cX4_knows, 3, some .int, 3, 6, 131, rc_X4_knows)
def rc_X4_when : rv_C := [
  (0, .aload_n 0, 1, 0, 0, 0, 0, []),
  (1, .getfield 12, 3, 3, 3, 188, 0, []),
  (4, .iload_n 1, 1, 0, 0, 0, 0, []),
  (5, .invokevirtual 104, 3, 10, 9, 291, 0, []),
  (8, .ifCond .eq 10, 3, 0, 0, 0, 0, []),
  (11, .iload_n 2, 1, 0, 0, 0, 0, []),
  (12, .invokestatic 67, 3, 98, 5, 235, 0, []),
  (15, .ifCond .ne 9, 3, 0, 0, 0, 0, []),
  (18, .aload_n 0, 1, 0, 0, 0, 0, []),
  (19, .iconst 0, 1, 0, 0, 0, 0, []),
  (20, .invokevirtual 60, 3, 95, 9, 226, 0, []),
  (23, .ireturn, 1, 0, 0, 0, 0, []),
  (24, .aload_n 0, 1, 0, 0, 0, 0, []),
  (25, .getfield 19, 3, 3, 23, 190, 0, []),
  (28, .aload_n 0, 1, 0, 0, 0, 0, []),
  (29, .getfield 12, 3, 3, 3, 188, 0, []),
  (32, .invokevirtual 165, 3, 9, 8, 410, 0, []),
  (35, .aload_n 0, 1, 0, 0, 0, 0, []),
  (36, .iload_n 1, 1, 0, 0, 0, 0, []),
  (37, .iload_n 2, 1, 0, 0, 0, 0, []),
  (38, .bipush 60, 2, 0, 0, 0, 60, []),
  (40, .invokevirtual 169, 3, 104, 17, 425, 0, []),
  (43, .istore_n 3, 1, 0, 0, 0, 0, []),
  (44, .iload_n 3, 1, 0, 0, 0, 0, []),
  (45, .ifCond .ge 11, 3, 0, 0, 0, 0, []),
  (48, .aload_n 0, 1, 0, 0, 0, 0, []),
  (49, .iconst 3, 1, 0, 0, 0, 3, []),
  (50, .invokevirtual 60, 3, 95, 9, 226, 0, []),
  (53, .goto 4, 3, 0, 0, 0, 0, []),
  (56, .iload_n 3, 1, 0, 0, 0, 0, []),
  (57, .ireturn, 1, 0, 0, 0, 0, [])]
def rm_X4_when : rv_M := (yX4_when, cX4_when, 4, some .int, 3, 6, 133, rc_X4_when)
def rc_X4_cold : rv_C := [
  (0, .iload_n 1, 1, 0, 0, 0, 0, []),
  (1, .invokestatic 52, 3, 97, 5, 220, 0, []),
  (4, .ifCond .eq 12, 3, 0, 0, 0, 0, []),
  (7, .iload_n 2, 1, 0, 0, 0, 0, []),
  (8, .bipush 99, 2, 0, 0, 0, 99, []),
  (10, .invokestatic 56, 3, 96, 9, 223, 0, []),
  (13, .ifCond .ne 9, 3, 0, 0, 0, 0, []),
  (16, .aload_n 0, 1, 0, 0, 0, 0, []),
  (17, .iconst 0, 1, 0, 0, 0, 0, []),
  (18, .invokevirtual 60, 3, 95, 9, 226, 0, []),
  (21, .ireturn, 1, 0, 0, 0, 0, []),
  (22, .aload_n 0, 1, 0, 0, 0, 0, []),
  (23, .getfield 19, 3, 3, 23, 190, 0, []),
  (26, .aload_n 0, 1, 0, 0, 0, 0, []),
  (27, .getfield 12, 3, 3, 3, 188, 0, []),
  (30, .invokevirtual 165, 3, 9, 8, 410, 0, []),
  (33, .iconst 0, 1, 0, 0, 0, 0, []),
  (34, .istore_n 3, 1, 0, 0, 0, 0, []),
  (35, .iload_n 3, 1, 0, 0, 0, 0, []),
  (36, .bipush 60, 2, 0, 0, 0, 60, []),
  (38, .if_icmp .gt 31, 3, 0, 0, 0, 0, []),
  (41, .aload_n 0, 1, 0, 0, 0, 0, []),
  (42, .getfield 19, 3, 3, 23, 190, 0, []),
  (45, .getfield 64, 3, 1, 3, 92, 0, []),
  (48, .iload_n 1, 1, 0, 0, 0, 0, []),
  (49, .iaload, 1, 0, 0, 0, 0, []),
  (50, .iload_n 2, 1, 0, 0, 0, 0, []),
  (51, .if_icmp .ge 5, 3, 0, 0, 0, 0, []),
  (54, .iload_n 3, 1, 0, 0, 0, 0, []),
  (55, .ireturn, 1, 0, 0, 0, 0, []),
  (56, .aload_n 0, 1, 0, 0, 0, 0, []),
  (57, .getfield 19, 3, 3, 23, 190, 0, []),
  (60, .invokevirtual 173, 3, 21, 4, 429, 0, []),
  (63, .iinc 3 1, 3, 0, 0, 0, 1, []),
  (66, .goto (-31), 3, 0, 0, 0, 0, []),
  (69, .aload_n 0, 1, 0, 0, 0, 0, []),
  (70, .iconst 3, 1, 0, 0, 0, 3, []),
  (71, .invokevirtual 60, 3, 95, 9, 226, 0, []),
  (74, .ireturn, 1, 0, 0, 0, 0, [])]
def rm_X4_cold : rv_M := (yX4_cold, cX4_cold, 4, some .int, 3, 5, 109, rc_X4_cold)
def rc_X4_left : rv_C := [
  (0, .iload_n 1, 1, 0, 0, 0, 0, []),
  (1, .sipush 9999, 3, 0, 0, 0, 9999, []),
  (4, .invokestatic 56, 3, 96, 9, 223, 0, []),
  (7, .ifCond .eq 12, 3, 0, 0, 0, 0, []),
  (10, .iload_n 2, 1, 0, 0, 0, 0, []),
  (11, .bipush 9, 2, 0, 0, 0, 9, []),
  (13, .invokestatic 56, 3, 96, 9, 223, 0, []),
  (16, .ifCond .ne 9, 3, 0, 0, 0, 0, []),
  (19, .aload_n 0, 1, 0, 0, 0, 0, []),
  (20, .iconst 0, 1, 0, 0, 0, 0, []),
  (21, .invokevirtual 60, 3, 95, 9, 226, 0, []),
  (24, .ireturn, 1, 0, 0, 0, 0, []),
  (25, .iload_n 1, 1, 0, 0, 0, 0, []),
  (26, .istore_n 3, 1, 0, 0, 0, 0, []),
  (27, .iconst 0, 1, 0, 0, 0, 0, []),
  (28, .istore 4, 2, 0, 0, 0, 0, []),
  (30, .iload 4, 2, 0, 0, 0, 0, [0, 1]),
  (32, .iload_n 2, 1, 0, 0, 0, 0, []),
  (33, .if_icmp .ge 14, 3, 0, 0, 0, 0, []),
  (36, .iload_n 3, 1, 0, 0, 0, 0, []),
  (37, .invokestatic 176, 3, 22, 5, 438, 0, []),
  (40, .istore_n 3, 1, 0, 0, 0, 0, []),
  (41, .iinc 4 1, 3, 0, 0, 0, 1, []),
  (44, .goto (-14), 3, 0, 0, 0, 0, []),
  (47, .iload_n 3, 1, 0, 0, 0, 0, []),
  (48, .ireturn, 1, 0, 0, 0, 0, [])]
def rm_X4_left : rv_M := (yX4_left, cX4_left, 5, some .int, 3, 1, 21, rc_X4_left)
def rc_X4_needed : rv_C := [
  (0, .iload_n 1, 1, 0, 0, 0, 0, []),
  (1, .sipush 500, 3, 0, 0, 0, 500, []),
  (4, .invokestatic 56, 3, 96, 9, 223, 0, []),
  (7, .ifCond .eq 12, 3, 0, 0, 0, 0, []),
  (10, .iload_n 2, 1, 0, 0, 0, 0, []),
  (11, .bipush 9, 2, 0, 0, 0, 9, []),
  (13, .invokestatic 56, 3, 96, 9, 223, 0, []),
  (16, .ifCond .ne 9, 3, 0, 0, 0, 0, []),
  (19, .aload_n 0, 1, 0, 0, 0, 0, []),
  (20, .iconst 0, 1, 0, 0, 0, 0, []),
  (21, .invokevirtual 60, 3, 95, 9, 226, 0, []),
  (24, .ireturn, 1, 0, 0, 0, 0, []),
  (25, .iload_n 1, 1, 0, 0, 0, 0, []),
  (26, .istore_n 3, 1, 0, 0, 0, 0, []),
  (27, .iconst 0, 1, 0, 0, 0, 0, []),
  (28, .istore 4, 2, 0, 0, 0, 0, []),
  (30, .iload 4, 2, 0, 0, 0, 0, [1]),
  (32, .iload_n 2, 1, 0, 0, 0, 0, []),
  (33, .if_icmp .ge 17, 3, 0, 0, 0, 0, []),
  (36, .iconst 4, 1, 0, 0, 0, 4, []),
  (37, .iload_n 3, 1, 0, 0, 0, 0, []),
  (38, .imul, 1, 0, 0, 0, 0, []),
  (39, .iconst 2, 1, 0, 0, 0, 2, []),
  (40, .iadd, 1, 0, 0, 0, 0, []),
  (41, .iconst 3, 1, 0, 0, 0, 3, []),
  (42, .idiv, 1, 0, 0, 0, 0, []),
  (43, .istore_n 3, 1, 0, 0, 0, 0, []),
  (44, .iinc 4 1, 3, 0, 0, 0, 1, []),
  (47, .goto (-17), 3, 0, 0, 0, 0, []),
  (50, .iload_n 3, 1, 0, 0, 0, 0, []),
  (51, .sipush 9999, 3, 0, 0, 0, 9999, []),
  (54, .if_icmp .le 11, 3, 0, 0, 0, 0, []),
  (57, .aload_n 0, 1, 0, 0, 0, 0, []),
  (58, .iconst 3, 1, 0, 0, 0, 3, []),
  (59, .invokevirtual 60, 3, 95, 9, 226, 0, []),
  (62, .goto 4, 3, 0, 0, 0, 0, []),
  (65, .iload_n 3, 1, 0, 0, 0, 0, []),
  (66, .ireturn, 1, 0, 0, 0, 0, [])]
def rm_X4_needed : rv_M := (yX4_needed, cX4_needed, 5, some .int, 3, 1, 21, rc_X4_needed)
def rc_X4_swapFor : rv_C := [
  (0, .aload_n 0, 1, 0, 0, 0, 0, []),
  (1, .getfield 12, 3, 3, 3, 188, 0, []),
  (4, .iload_n 1, 1, 0, 0, 0, 0, []),
  (5, .invokevirtual 104, 3, 10, 9, 291, 0, []),
  (8, .ifCond .eq 12, 3, 0, 0, 0, 0, []),
  (11, .iload_n 2, 1, 0, 0, 0, 0, []),
  (12, .bipush 40, 2, 0, 0, 0, 40, []),
  (14, .invokestatic 56, 3, 96, 9, 223, 0, []),
  (17, .ifCond .ne 9, 3, 0, 0, 0, 0, []),
  (20, .aload_n 0, 1, 0, 0, 0, 0, []),
  (21, .iconst 0, 1, 0, 0, 0, 0, []),
  (22, .invokevirtual 60, 3, 95, 9, 226, 0, []),
  (25, .ireturn, 1, 0, 0, 0, 0, []),
  (26, .iconst (-1), 1, 0, 0, 0, -1, []),
  (27, .istore_n 3, 1, 0, 0, 0, 0, []),
  (28, .iconst (-1), 1, 0, 0, 0, -1, []),
  (29, .istore 4, 2, 0, 0, 0, 0, []),
  (31, .iconst 0, 1, 0, 0, 0, 0, []),
  (32, .istore 5, 2, 0, 0, 0, 0, []),
  (34, .iload 5, 2, 0, 0, 0, 0, [6]),
  (36, .aload_n 0, 1, 0, 0, 0, 0, []),
  (37, .getfield 12, 3, 3, 3, 188, 0, []),
  (40, .getfield 179, 3, 1, 71, 106, 0, []),
  (43, .if_icmp .ge 75, 3, 0, 0, 0, 0, []),
  (46, .iload 5, 2, 0, 0, 0, 0, []),
  (48, .iload_n 1, 1, 0, 0, 0, 0, []),
  (49, .if_icmp .ne 6, 3, 0, 0, 0, 0, []),
  (52, .goto 60, 3, 0, 0, 0, 0, []),
  (55, .aload_n 0, 1, 0, 0, 0, 0, []),
  (56, .getfield 19, 3, 3, 23, 190, 0, []),
  (59, .aload_n 0, 1, 0, 0, 0, 0, []),
  (60, .getfield 12, 3, 3, 3, 188, 0, []),
  (63, .invokevirtual 165, 3, 9, 8, 410, 0, []),
  (66, .aload_n 0, 1, 0, 0, 0, 0, []),
  (67, .getfield 19, 3, 3, 23, 190, 0, []),
  (70, .iload_n 1, 1, 0, 0, 0, 0, []),
  (71, .iload 5, 2, 0, 0, 0, 0, []),
  (73, .invokevirtual 138, 3, 14, 12, 335, 0, []),
  (76, .aload_n 0, 1, 0, 0, 0, 0, []),
  (77, .getfield 19, 3, 3, 23, 190, 0, []),
  (80, .iload_n 2, 1, 0, 0, 0, 0, []),
  (81, .invokevirtual 146, 3, 20, 8, 344, 0, []),
  (84, .aload_n 0, 1, 0, 0, 0, 0, []),
  (85, .getfield 19, 3, 3, 23, 190, 0, []),
  (88, .getfield 116, 3, 1, 53, 102, 0, []),
  (91, .iload_n 1, 1, 0, 0, 0, 0, []),
  (92, .iaload, 1, 0, 0, 0, 0, []),
  (93, .invokestatic 182, 3, 209, 5, 447, 0, []),
  (96, .istore 6, 2, 0, 0, 0, 0, []),
  (98, .iload 6, 2, 0, 0, 0, 0, []),
  (100, .iload 4, 2, 0, 0, 0, 0, []),
  (102, .if_icmp .le 10, 3, 0, 0, 0, 0, []),
  (105, .iload 6, 2, 0, 0, 0, 0, []),
  (107, .istore 4, 2, 0, 0, 0, 0, []),
  (109, .iload 5, 2, 0, 0, 0, 0, []),
  (111, .istore_n 3, 1, 0, 0, 0, 0, []),
  (112, .iinc 5 1, 3, 0, 0, 0, 1, []),
  (115, .goto (-81), 3, 0, 0, 0, 0, []),
  (118, .iload_n 3, 1, 0, 0, 0, 0, []),
  (119, .iconst (-1), 1, 0, 0, 0, -1, []),
  (120, .if_icmp .ne 11, 3, 0, 0, 0, 0, []),
  (123, .aload_n 0, 1, 0, 0, 0, 0, []),
  (124, .iconst 3, 1, 0, 0, 0, 3, []),
  (125, .invokevirtual 60, 3, 95, 9, 226, 0, []),
  (128, .goto 4, 3, 0, 0, 0, 0, []),
  (131, .iload_n 3, 1, 0, 0, 0, 0, []),
  (132, .ireturn, 1, 0, 0, 0, 0, [])]
def rm_X4_swapFor : rv_M := (yX4_swapFor, cX4_swapFor, 7, some .int, 3, 6, 131, rc_X4_swapFor)
def rc_X4_seat : rv_C := [
  (0, .aload_n 0, 1, 0, 0, 0, 0, []),
  (1, .getfield 12, 3, 3, 3, 188, 0, []),
  (4, .iload_n 1, 1, 0, 0, 0, 0, []),
  (5, .invokevirtual 104, 3, 10, 9, 291, 0, []),
  (8, .ifCond .eq 10, 3, 0, 0, 0, 0, []),
  (11, .iload_n 2, 1, 0, 0, 0, 0, []),
  (12, .invokestatic 67, 3, 98, 5, 235, 0, []),
  (15, .ifCond .ne 9, 3, 0, 0, 0, 0, []),
  (18, .aload_n 0, 1, 0, 0, 0, 0, []),
  (19, .iconst 0, 1, 0, 0, 0, 0, []),
  (20, .invokevirtual 60, 3, 95, 9, 226, 0, []),
  (23, .ireturn, 1, 0, 0, 0, 0, []),
  (24, .iconst (-1), 1, 0, 0, 0, -1, []),
  (25, .istore_n 3, 1, 0, 0, 0, 0, []),
  (26, .bipush 61, 2, 0, 0, 0, 61, []),
  (28, .istore 4, 2, 0, 0, 0, 0, []),
  (30, .iconst 0, 1, 0, 0, 0, 0, []),
  (31, .istore 5, 2, 0, 0, 0, 0, []),
  (33, .iload 5, 2, 0, 0, 0, 0, [6]),
  (35, .bipush 10, 2, 0, 0, 0, 10, []),
  (37, .if_icmp .ge 55, 3, 0, 0, 0, 0, []),
  (40, .aload_n 0, 1, 0, 0, 0, 0, []),
  (41, .getfield 19, 3, 3, 23, 190, 0, []),
  (44, .aload_n 0, 1, 0, 0, 0, 0, []),
  (45, .getfield 12, 3, 3, 3, 188, 0, []),
  (48, .invokevirtual 165, 3, 9, 8, 410, 0, []),
  (51, .aload_n 0, 1, 0, 0, 0, 0, []),
  (52, .getfield 19, 3, 3, 23, 190, 0, []),
  (55, .getfield 110, 3, 1, 33, 98, 0, []),
  (58, .iload_n 1, 1, 0, 0, 0, 0, []),
  (59, .iload 5, 2, 0, 0, 0, 0, []),
  (61, .iastore, 1, 0, 0, 0, 0, []),
  (62, .aload_n 0, 1, 0, 0, 0, 0, []),
  (63, .iload_n 1, 1, 0, 0, 0, 0, []),
  (64, .iload_n 2, 1, 0, 0, 0, 0, []),
  (65, .iload 4, 2, 0, 0, 0, 0, []),
  (67, .iconst 1, 1, 0, 0, 0, 1, []),
  (68, .isub, 1, 0, 0, 0, 0, []),
  (69, .invokevirtual 169, 3, 104, 17, 425, 0, []),
  (72, .istore 6, 2, 0, 0, 0, 0, []),
  (74, .iload 6, 2, 0, 0, 0, 0, []),
  (76, .ifCond .lt 10, 3, 0, 0, 0, 0, []),
  (79, .iload 6, 2, 0, 0, 0, 0, []),
  (81, .istore 4, 2, 0, 0, 0, 0, []),
  (83, .iload 5, 2, 0, 0, 0, 0, []),
  (85, .istore_n 3, 1, 0, 0, 0, 0, []),
  (86, .iinc 5 1, 3, 0, 0, 0, 1, []),
  (89, .goto (-56), 3, 0, 0, 0, 0, []),
  (92, .iload_n 3, 1, 0, 0, 0, 0, []),
  (93, .ifCond .ge 11, 3, 0, 0, 0, 0, []),
  (96, .aload_n 0, 1, 0, 0, 0, 0, []),
  (97, .iconst 3, 1, 0, 0, 0, 3, []),
  (98, .invokevirtual 60, 3, 95, 9, 226, 0, []),
  (101, .goto 4, 3, 0, 0, 0, 0, []),
  (104, .iload_n 3, 1, 0, 0, 0, 0, []),
  (105, .ireturn, 1, 0, 0, 0, 0, [])]
def rm_X4_seat : rv_M := (yX4_seat, cX4_seat, 7, some .int, 3, 6, 133, rc_X4_seat)
def rc_X4_kindFor : rv_C := [
  (0, .aload_n 0, 1, 0, 0, 0, 0, []),
  (1, .getfield 12, 3, 3, 3, 188, 0, []),
  (4, .iload_n 1, 1, 0, 0, 0, 0, []),
  (5, .invokevirtual 104, 3, 10, 9, 291, 0, []),
  (8, .ifCond .eq 12, 3, 0, 0, 0, 0, []),
  (11, .iload_n 2, 1, 0, 0, 0, 0, []),
  (12, .bipush 40, 2, 0, 0, 0, 40, []),
  (14, .invokestatic 56, 3, 96, 9, 223, 0, []),
  (17, .ifCond .ne 9, 3, 0, 0, 0, 0, []),
  (20, .aload_n 0, 1, 0, 0, 0, 0, []),
  (21, .iconst 0, 1, 0, 0, 0, 0, []),
  (22, .invokevirtual 60, 3, 95, 9, 226, 0, []),
  (25, .ireturn, 1, 0, 0, 0, 0, []),
  (26, .iconst 0, 1, 0, 0, 0, 0, []),
  (27, .istore_n 3, 1, 0, 0, 0, 0, []),
  (28, .iconst (-1), 1, 0, 0, 0, -1, []),
  (29, .istore 4, 2, 0, 0, 0, 0, []),
  (31, .iconst 0, 1, 0, 0, 0, 0, []),
  (32, .istore 5, 2, 0, 0, 0, 0, []),
  (34, .iload 5, 2, 0, 0, 0, 0, [6]),
  (36, .bipush 7, 2, 0, 0, 0, 7, []),
  (38, .if_icmp .ge 67, 3, 0, 0, 0, 0, []),
  (41, .aload_n 0, 1, 0, 0, 0, 0, []),
  (42, .getfield 19, 3, 3, 23, 190, 0, []),
  (45, .aload_n 0, 1, 0, 0, 0, 0, []),
  (46, .getfield 12, 3, 3, 3, 188, 0, []),
  (49, .invokevirtual 165, 3, 9, 8, 410, 0, []),
  (52, .aload_n 0, 1, 0, 0, 0, 0, []),
  (53, .getfield 19, 3, 3, 23, 190, 0, []),
  (56, .getfield 107, 3, 1, 23, 96, 0, []),
  (59, .iload_n 1, 1, 0, 0, 0, 0, []),
  (60, .iload 5, 2, 0, 0, 0, 0, []),
  (62, .iastore, 1, 0, 0, 0, 0, []),
  (63, .aload_n 0, 1, 0, 0, 0, 0, []),
  (64, .getfield 19, 3, 3, 23, 190, 0, []),
  (67, .iload_n 2, 1, 0, 0, 0, 0, []),
  (68, .invokevirtual 146, 3, 20, 8, 344, 0, []),
  (71, .aload_n 0, 1, 0, 0, 0, 0, []),
  (72, .getfield 19, 3, 3, 23, 190, 0, []),
  (75, .getfield 116, 3, 1, 53, 102, 0, []),
  (78, .iload_n 1, 1, 0, 0, 0, 0, []),
  (79, .iaload, 1, 0, 0, 0, 0, []),
  (80, .invokestatic 182, 3, 209, 5, 447, 0, []),
  (83, .istore 6, 2, 0, 0, 0, 0, []),
  (85, .iload 6, 2, 0, 0, 0, 0, []),
  (87, .iload 4, 2, 0, 0, 0, 0, []),
  (89, .if_icmp .le 10, 3, 0, 0, 0, 0, []),
  (92, .iload 6, 2, 0, 0, 0, 0, []),
  (94, .istore 4, 2, 0, 0, 0, 0, []),
  (96, .iload 5, 2, 0, 0, 0, 0, []),
  (98, .istore_n 3, 1, 0, 0, 0, 0, []),
  (99, .iinc 5 1, 3, 0, 0, 0, 1, []),
  (102, .goto (-68), 3, 0, 0, 0, 0, []),
  (105, .iload_n 3, 1, 0, 0, 0, 0, []),
  (106, .ireturn, 1, 0, 0, 0, 0, [])]
def rm_X4_kindFor : rv_M := (yX4_kindFor, cX4_kindFor, 7, some .int, 3, 6, 131, rc_X4_kindFor)
def rc_X4_freshFor : rv_C := [
  (0, .iload_n 1, 1, 0, 0, 0, 0, []),
  (1, .bipush 99, 2, 0, 0, 0, 99, []),
  (3, .invokestatic 56, 3, 96, 9, 223, 0, []),
  (6, .ifCond .eq 12, 3, 0, 0, 0, 0, []),
  (9, .iload_n 2, 1, 0, 0, 0, 0, []),
  (10, .bipush 40, 2, 0, 0, 0, 40, []),
  (12, .invokestatic 56, 3, 96, 9, 223, 0, []),
  (15, .ifCond .ne 9, 3, 0, 0, 0, 0, []),
  (18, .aload_n 0, 1, 0, 0, 0, 0, []),
  (19, .iconst 0, 1, 0, 0, 0, 0, []),
  (20, .invokevirtual 60, 3, 95, 9, 226, 0, []),
  (23, .ireturn, 1, 0, 0, 0, 0, []),
  (24, .iconst 0, 1, 0, 0, 0, 0, []),
  (25, .istore_n 3, 1, 0, 0, 0, 0, []),
  (26, .iload_n 3, 1, 0, 0, 0, 0, []),
  (27, .bipush 99, 2, 0, 0, 0, 99, []),
  (29, .if_icmp .gt 49, 3, 0, 0, 0, 0, []),
  (32, .aload_n 0, 1, 0, 0, 0, 0, []),
  (33, .getfield 19, 3, 3, 23, 190, 0, []),
  (36, .aload_n 0, 1, 0, 0, 0, 0, []),
  (37, .getfield 12, 3, 3, 3, 188, 0, []),
  (40, .invokevirtual 165, 3, 9, 8, 410, 0, []),
  (43, .aload_n 0, 1, 0, 0, 0, 0, []),
  (44, .getfield 19, 3, 3, 23, 190, 0, []),
  (47, .iload_n 3, 1, 0, 0, 0, 0, []),
  (48, .putfield 84, 3, 1, 81, 109, 0, []),
  (51, .aload_n 0, 1, 0, 0, 0, 0, []),
  (52, .getfield 19, 3, 3, 23, 190, 0, []),
  (55, .iload_n 2, 1, 0, 0, 0, 0, []),
  (56, .invokevirtual 146, 3, 20, 8, 344, 0, []),
  (59, .aload_n 0, 1, 0, 0, 0, 0, []),
  (60, .getfield 19, 3, 3, 23, 190, 0, []),
  (63, .iload_n 1, 1, 0, 0, 0, 0, []),
  (64, .invokevirtual 156, 3, 33, 9, 390, 0, []),
  (67, .ifCond .ne 5, 3, 0, 0, 0, 0, []),
  (70, .iload_n 3, 1, 0, 0, 0, 0, []),
  (71, .ireturn, 1, 0, 0, 0, 0, []),
  (72, .iinc 3 1, 3, 0, 0, 0, 1, []),
  (75, .goto (-49), 3, 0, 0, 0, 0, []),
  (78, .aload_n 0, 1, 0, 0, 0, 0, []),
  (79, .iconst 3, 1, 0, 0, 0, 3, []),
  (80, .invokevirtual 60, 3, 95, 9, 226, 0, []),
  (83, .ireturn, 1, 0, 0, 0, 0, [])]
def rm_X4_freshFor : rv_M := (yX4_freshFor, cX4_freshFor, 4, some .int, 3, 6, 131, rc_X4_freshFor)
def rc_X4_hides : rv_C := [
  (0, .iload_n 1, 1, 0, 0, 0, 0, []),
  (1, .invokestatic 52, 3, 97, 5, 220, 0, []),
  (4, .ifCond .eq 32, 3, 0, 0, 0, 0, []),
  (7, .iload_n 2, 1, 0, 0, 0, 0, []),
  (8, .invokestatic 67, 3, 98, 5, 235, 0, []),
  (11, .ifCond .eq 25, 3, 0, 0, 0, 0, []),
  (14, .iload_n 3, 1, 0, 0, 0, 0, []),
  (15, .invokestatic 67, 3, 98, 5, 235, 0, []),
  (18, .ifCond .eq 18, 3, 0, 0, 0, 0, []),
  (21, .iload 4, 2, 0, 0, 0, 0, []),
  (23, .bipush 20, 2, 0, 0, 0, 20, []),
  (25, .invokestatic 56, 3, 96, 9, 223, 0, []),
  (28, .ifCond .eq 8, 3, 0, 0, 0, 0, []),
  (31, .iload_n 2, 1, 0, 0, 0, 0, []),
  (32, .iload_n 3, 1, 0, 0, 0, 0, []),
  (33, .if_icmp .ne 9, 3, 0, 0, 0, 0, []),
  (36, .aload_n 0, 1, 0, 0, 0, 0, []),
  (37, .iconst 0, 1, 0, 0, 0, 0, []),
  (38, .invokevirtual 60, 3, 95, 9, 226, 0, []),
  (41, .ireturn, 1, 0, 0, 0, 0, []),
  (42, .aload_n 0, 1, 0, 0, 0, 0, []),
  (43, .getfield 12, 3, 3, 3, 188, 0, []),
  (46, .iload_n 1, 1, 0, 0, 0, 0, []),
  (47, .iload_n 2, 1, 0, 0, 0, 0, []),
  (48, .invokevirtual 70, 3, 15, 13, 238, 0, []),
  (51, .istore 5, 2, 0, 0, 0, 0, []),
  (53, .iconst 0, 1, 0, 0, 0, 0, []),
  (54, .istore 6, 2, 0, 0, 0, 0, []),
  (56, .iload 5, 2, 0, 0, 0, 0, []),
  (58, .iload 6, 2, 0, 0, 0, 0, []),
  (60, .iadd, 1, 0, 0, 0, 0, []),
  (61, .sipush 9999, 3, 0, 0, 0, 9999, []),
  (64, .if_icmp .gt 47, 3, 0, 0, 0, 0, []),
  (67, .aload_n 0, 1, 0, 0, 0, 0, []),
  (68, .getfield 19, 3, 3, 23, 190, 0, []),
  (71, .aload_n 0, 1, 0, 0, 0, 0, []),
  (72, .getfield 12, 3, 3, 3, 188, 0, []),
  (75, .invokevirtual 165, 3, 9, 8, 410, 0, []),
  (78, .aload_n 0, 1, 0, 0, 0, 0, []),
  (79, .getfield 19, 3, 3, 23, 190, 0, []),
  (82, .iload_n 1, 1, 0, 0, 0, 0, []),
  (83, .iload_n 2, 1, 0, 0, 0, 0, []),
  (84, .iload 5, 2, 0, 0, 0, 0, []),
  (86, .iload 6, 2, 0, 0, 0, 0, []),
  (88, .iadd, 1, 0, 0, 0, 0, []),
  (89, .invokevirtual 74, 3, 16, 16, 242, 0, []),
  (92, .aload_n 0, 1, 0, 0, 0, 0, []),
  (93, .iload_n 3, 1, 0, 0, 0, 0, []),
  (94, .iload 4, 2, 0, 0, 0, 0, []),
  (96, .invokevirtual 187, 3, 105, 13, 464, 0, []),
  (99, .ifCond .ne 6, 3, 0, 0, 0, 0, []),
  (102, .iload 6, 2, 0, 0, 0, 0, []),
  (104, .ireturn, 1, 0, 0, 0, 0, []),
  (105, .iinc 6 10, 3, 0, 0, 0, 10, []),
  (108, .goto (-52), 3, 0, 0, 0, 0, []),
  (111, .aload_n 0, 1, 0, 0, 0, 0, []),
  (112, .iconst 3, 1, 0, 0, 0, 3, []),
  (113, .invokevirtual 60, 3, 95, 9, 226, 0, []),
  (116, .ireturn, 1, 0, 0, 0, 0, [])]
def rm_X4_hides : rv_M := (yX4_hides, cX4_hides, 7, some .int, 3, 6, 133, rc_X4_hides)
def rc_X4_leave : rv_C := [
  (0, .iload_n 1, 1, 0, 0, 0, 0, []),
  (1, .invokestatic 67, 3, 98, 5, 235, 0, []),
  (4, .ifCond .eq 12, 3, 0, 0, 0, 0, []),
  (7, .iload_n 2, 1, 0, 0, 0, 0, []),
  (8, .bipush 20, 2, 0, 0, 0, 20, []),
  (10, .invokestatic 56, 3, 96, 9, 223, 0, []),
  (13, .ifCond .ne 9, 3, 0, 0, 0, 0, []),
  (16, .aload_n 0, 1, 0, 0, 0, 0, []),
  (17, .iconst 0, 1, 0, 0, 0, 0, []),
  (18, .invokevirtual 60, 3, 95, 9, 226, 0, []),
  (21, .ireturn, 1, 0, 0, 0, 0, []),
  (22, .iconst 1, 1, 0, 0, 0, 1, []),
  (23, .aload_n 0, 1, 0, 0, 0, 0, []),
  (24, .getfield 12, 3, 3, 3, 188, 0, []),
  (27, .getfield 179, 3, 1, 71, 106, 0, []),
  (30, .ishl, 1, 0, 0, 0, 0, []),
  (31, .iconst 1, 1, 0, 0, 0, 1, []),
  (32, .isub, 1, 0, 0, 0, 0, []),
  (33, .istore_n 3, 1, 0, 0, 0, 0, []),
  (34, .iload_n 3, 1, 0, 0, 0, 0, []),
  (35, .istore 4, 2, 0, 0, 0, 0, []),
  (37, .iconst 0, 1, 0, 0, 0, 0, []),
  (38, .istore 5, 2, 0, 0, 0, 0, []),
  (40, .iload 5, 2, 0, 0, 0, 0, []),
  (42, .iload_n 3, 1, 0, 0, 0, 0, []),
  (43, .if_icmp .ge 58, 3, 0, 0, 0, 0, []),
  (46, .iload 5, 2, 0, 0, 0, 0, []),
  (48, .invokestatic 182, 3, 209, 5, 447, 0, []),
  (51, .iload 4, 2, 0, 0, 0, 0, []),
  (53, .invokestatic 182, 3, 209, 5, 447, 0, []),
  (56, .if_icmp .lt 6, 3, 0, 0, 0, 0, []),
  (59, .goto 36, 3, 0, 0, 0, 0, []),
  (62, .aload_n 0, 1, 0, 0, 0, 0, []),
  (63, .getfield 19, 3, 3, 23, 190, 0, []),
  (66, .aload_n 0, 1, 0, 0, 0, 0, []),
  (67, .getfield 12, 3, 3, 3, 188, 0, []),
  (70, .invokevirtual 165, 3, 9, 8, 410, 0, []),
  (73, .aload_n 0, 1, 0, 0, 0, 0, []),
  (74, .getfield 19, 3, 3, 23, 190, 0, []),
  (77, .iload 5, 2, 0, 0, 0, 0, []),
  (79, .putfield 190, 3, 1, 111, 115, 0, []),
  (82, .aload_n 0, 1, 0, 0, 0, 0, []),
  (83, .iload_n 1, 1, 0, 0, 0, 0, []),
  (84, .iload_n 2, 1, 0, 0, 0, 0, []),
  (85, .invokevirtual 187, 3, 105, 13, 464, 0, []),
  (88, .ifCond .ne 7, 3, 0, 0, 0, 0, []),
  (91, .iload 5, 2, 0, 0, 0, 0, []),
  (93, .istore 4, 2, 0, 0, 0, 0, []),
  (95, .iinc 5 1, 3, 0, 0, 0, 1, []),
  (98, .goto (-58), 3, 0, 0, 0, 0, []),
  (101, .iload 4, 2, 0, 0, 0, 0, []),
  (103, .ireturn, 1, 0, 0, 0, 0, [])]
def rm_X4_leave : rv_M := (yX4_leave, cX4_leave, 6, some .int, 3, 6, 133, rc_X4_leave)
def rc_X4_plugFor : rv_C := [
  (0, .iload_n 1, 1, 0, 0, 0, 0, []),
  (1, .invokestatic 67, 3, 98, 5, 235, 0, []),
  (4, .ifCond .eq 12, 3, 0, 0, 0, 0, []),
  (7, .iload_n 2, 1, 0, 0, 0, 0, []),
  (8, .bipush 40, 2, 0, 0, 0, 40, []),
  (10, .invokestatic 56, 3, 96, 9, 223, 0, []),
  (13, .ifCond .ne 9, 3, 0, 0, 0, 0, []),
  (16, .aload_n 0, 1, 0, 0, 0, 0, []),
  (17, .iconst 0, 1, 0, 0, 0, 0, []),
  (18, .invokevirtual 60, 3, 95, 9, 226, 0, []),
  (21, .ireturn, 1, 0, 0, 0, 0, []),
  (22, .iconst 0, 1, 0, 0, 0, 0, []),
  (23, .istore_n 3, 1, 0, 0, 0, 0, []),
  (24, .bipush 9, 2, 0, 0, 0, 9, []),
  (26, .istore 4, 2, 0, 0, 0, 0, []),
  (28, .iconst 0, 1, 0, 0, 0, 0, []),
  (29, .istore 5, 2, 0, 0, 0, 0, []),
  (31, .iload 5, 2, 0, 0, 0, 0, [6]),
  (33, .bipush 10, 2, 0, 0, 0, 10, []),
  (35, .if_icmp .ge 64, 3, 0, 0, 0, 0, []),
  (38, .aload_n 0, 1, 0, 0, 0, 0, []),
  (39, .getfield 19, 3, 3, 23, 190, 0, []),
  (42, .aload_n 0, 1, 0, 0, 0, 0, []),
  (43, .getfield 12, 3, 3, 3, 188, 0, []),
  (46, .invokevirtual 165, 3, 9, 8, 410, 0, []),
  (49, .aload_n 0, 1, 0, 0, 0, 0, []),
  (50, .getfield 19, 3, 3, 23, 190, 0, []),
  (53, .iload 5, 2, 0, 0, 0, 0, []),
  (55, .invokevirtual 87, 3, 18, 8, 267, 0, []),
  (58, .aload_n 0, 1, 0, 0, 0, 0, []),
  (59, .getfield 19, 3, 3, 23, 190, 0, []),
  (62, .iload_n 2, 1, 0, 0, 0, 0, []),
  (63, .invokevirtual 146, 3, 20, 8, 344, 0, []),
  (66, .aload_n 0, 1, 0, 0, 0, 0, []),
  (67, .getfield 19, 3, 3, 23, 190, 0, []),
  (70, .iload_n 1, 1, 0, 0, 0, 0, []),
  (71, .invokevirtual 193, 3, 29, 9, 468, 0, []),
  (74, .invokestatic 182, 3, 209, 5, 447, 0, []),
  (77, .istore 6, 2, 0, 0, 0, 0, []),
  (79, .iload 6, 2, 0, 0, 0, 0, []),
  (81, .iload 4, 2, 0, 0, 0, 0, []),
  (83, .if_icmp .ge 10, 3, 0, 0, 0, 0, []),
  (86, .iload 6, 2, 0, 0, 0, 0, []),
  (88, .istore 4, 2, 0, 0, 0, 0, []),
  (90, .iload 5, 2, 0, 0, 0, 0, []),
  (92, .istore_n 3, 1, 0, 0, 0, 0, []),
  (93, .iinc 5 1, 3, 0, 0, 0, 1, []),
  (96, .goto (-65), 3, 0, 0, 0, 0, []),
  (99, .iload_n 3, 1, 0, 0, 0, 0, []),
  (100, .ireturn, 1, 0, 0, 0, 0, [])]
def rm_X4_plugFor : rv_M := (yX4_plugFor, cX4_plugFor, 7, some .int, 3, 6, 131, rc_X4_plugFor)
def rc_X4_fits : rv_C := [
  (0, .aload_n 0, 1, 0, 0, 0, 0, []),
  (1, .iload_n 1, 1, 0, 0, 0, 0, []),
  (2, .invokevirtual 196, 3, 103, 9, 481, 0, []),
  (5, .istore_n 3, 1, 0, 0, 0, 0, []),
  (6, .iload_n 3, 1, 0, 0, 0, 0, []),
  (7, .iconst (-1), 1, 0, 0, 0, -1, []),
  (8, .if_icmp .eq 9, 3, 0, 0, 0, 0, []),
  (11, .aload_n 0, 1, 0, 0, 0, 0, []),
  (12, .iload_n 3, 1, 0, 0, 0, 0, []),
  (13, .invokevirtual 60, 3, 95, 9, 226, 0, []),
  (16, .ireturn, 1, 0, 0, 0, 0, []),
  (17, .aload_n 0, 1, 0, 0, 0, 0, []),
  (18, .getfield 12, 3, 3, 3, 188, 0, []),
  (21, .iload_n 2, 1, 0, 0, 0, 0, []),
  (22, .invokevirtual 104, 3, 10, 9, 291, 0, []),
  (25, .ifCond .ne 9, 3, 0, 0, 0, 0, []),
  (28, .aload_n 0, 1, 0, 0, 0, 0, []),
  (29, .iconst 0, 1, 0, 0, 0, 0, []),
  (30, .invokevirtual 60, 3, 95, 9, 226, 0, []),
  (33, .ireturn, 1, 0, 0, 0, 0, []),
  (34, .iconst 0, 1, 0, 0, 0, 0, []),
  (35, .istore 4, 2, 0, 0, 0, 0, []),
  (37, .iconst 0, 1, 0, 0, 0, 0, []),
  (38, .istore 5, 2, 0, 0, 0, 0, []),
  (40, .iload 5, 2, 0, 0, 0, 0, [3]),
  (42, .iconst 4, 1, 0, 0, 0, 4, []),
  (43, .if_icmp .ge 53, 3, 0, 0, 0, 0, []),
  (46, .aload_n 0, 1, 0, 0, 0, 0, []),
  (47, .getfield 19, 3, 3, 23, 190, 0, []),
  (50, .aload_n 0, 1, 0, 0, 0, 0, []),
  (51, .getfield 12, 3, 3, 3, 188, 0, []),
  (54, .invokevirtual 165, 3, 9, 8, 410, 0, []),
  (57, .aload_n 0, 1, 0, 0, 0, 0, []),
  (58, .getfield 19, 3, 3, 23, 190, 0, []),
  (61, .getfield 113, 3, 1, 43, 100, 0, []),
  (64, .iload_n 2, 1, 0, 0, 0, 0, []),
  (65, .iload 5, 2, 0, 0, 0, 0, []),
  (67, .iastore, 1, 0, 0, 0, 0, []),
  (68, .aload_n 0, 1, 0, 0, 0, 0, []),
  (69, .aload_n 0, 1, 0, 0, 0, 0, []),
  (70, .getfield 24, 3, 3, 33, 191, 0, []),
  (73, .iload_n 1, 1, 0, 0, 0, 0, []),
  (74, .aaload, 1, 0, 0, 0, 0, []),
  (75, .invokevirtual 199, 3, 106, 9, 492, 0, []),
  (78, .ifCond .eq 12, 3, 0, 0, 0, 0, []),
  (81, .iload 4, 2, 0, 0, 0, 0, []),
  (83, .iconst 1, 1, 0, 0, 0, 1, []),
  (84, .iload 5, 2, 0, 0, 0, 0, []),
  (86, .ishl, 1, 0, 0, 0, 0, []),
  (87, .ior, 1, 0, 0, 0, 0, []),
  (88, .istore 4, 2, 0, 0, 0, 0, []),
  (90, .iinc 5 1, 3, 0, 0, 0, 1, []),
  (93, .goto (-53), 3, 0, 0, 0, 0, []),
  (96, .iload 4, 2, 0, 0, 0, 0, []),
  (98, .ireturn, 1, 0, 0, 0, 0, [])]
def rm_X4_fits : rv_M := (yX4_fits, cX4_fits, 6, some .int, 3, 6, 132, rc_X4_fits)
def rc_X4_kinds : rv_C := [
  (0, .aload_n 0, 1, 0, 0, 0, 0, []),
  (1, .iload_n 1, 1, 0, 0, 0, 0, []),
  (2, .invokevirtual 196, 3, 103, 9, 481, 0, []),
  (5, .istore_n 3, 1, 0, 0, 0, 0, []),
  (6, .iload_n 3, 1, 0, 0, 0, 0, []),
  (7, .iconst (-1), 1, 0, 0, 0, -1, []),
  (8, .if_icmp .eq 9, 3, 0, 0, 0, 0, []),
  (11, .aload_n 0, 1, 0, 0, 0, 0, []),
  (12, .iload_n 3, 1, 0, 0, 0, 0, []),
  (13, .invokevirtual 60, 3, 95, 9, 226, 0, []),
  (16, .ireturn, 1, 0, 0, 0, 0, []),
  (17, .aload_n 0, 1, 0, 0, 0, 0, []),
  (18, .getfield 12, 3, 3, 3, 188, 0, []),
  (21, .iload_n 2, 1, 0, 0, 0, 0, []),
  (22, .invokevirtual 104, 3, 10, 9, 291, 0, []),
  (25, .ifCond .ne 9, 3, 0, 0, 0, 0, []),
  (28, .aload_n 0, 1, 0, 0, 0, 0, []),
  (29, .iconst 0, 1, 0, 0, 0, 0, []),
  (30, .invokevirtual 60, 3, 95, 9, 226, 0, []),
  (33, .ireturn, 1, 0, 0, 0, 0, []),
  (34, .iconst 0, 1, 0, 0, 0, 0, []),
  (35, .istore 4, 2, 0, 0, 0, 0, []),
  (37, .iconst 0, 1, 0, 0, 0, 0, []),
  (38, .istore 5, 2, 0, 0, 0, 0, []),
  (40, .iload 5, 2, 0, 0, 0, 0, [3]),
  (42, .bipush 7, 2, 0, 0, 0, 7, []),
  (44, .if_icmp .ge 53, 3, 0, 0, 0, 0, []),
  (47, .aload_n 0, 1, 0, 0, 0, 0, []),
  (48, .getfield 19, 3, 3, 23, 190, 0, []),
  (51, .aload_n 0, 1, 0, 0, 0, 0, []),
  (52, .getfield 12, 3, 3, 3, 188, 0, []),
  (55, .invokevirtual 165, 3, 9, 8, 410, 0, []),
  (58, .aload_n 0, 1, 0, 0, 0, 0, []),
  (59, .getfield 19, 3, 3, 23, 190, 0, []),
  (62, .getfield 107, 3, 1, 23, 96, 0, []),
  (65, .iload_n 2, 1, 0, 0, 0, 0, []),
  (66, .iload 5, 2, 0, 0, 0, 0, []),
  (68, .iastore, 1, 0, 0, 0, 0, []),
  (69, .aload_n 0, 1, 0, 0, 0, 0, []),
  (70, .aload_n 0, 1, 0, 0, 0, 0, []),
  (71, .getfield 24, 3, 3, 33, 191, 0, []),
  (74, .iload_n 1, 1, 0, 0, 0, 0, []),
  (75, .aaload, 1, 0, 0, 0, 0, []),
  (76, .invokevirtual 199, 3, 106, 9, 492, 0, []),
  (79, .ifCond .eq 12, 3, 0, 0, 0, 0, []),
  (82, .iload 4, 2, 0, 0, 0, 0, []),
  (84, .iconst 1, 1, 0, 0, 0, 1, []),
  (85, .iload 5, 2, 0, 0, 0, 0, []),
  (87, .ishl, 1, 0, 0, 0, 0, []),
  (88, .ior, 1, 0, 0, 0, 0, []),
  (89, .istore 4, 2, 0, 0, 0, 0, []),
  (91, .iinc 5 1, 3, 0, 0, 0, 1, []),
  (94, .goto (-54), 3, 0, 0, 0, 0, []),
  (97, .iload 4, 2, 0, 0, 0, 0, []),
  (99, .ireturn, 1, 0, 0, 0, 0, [])]
def rm_X4_kinds : rv_M := (yX4_kinds, cX4_kinds, 6, some .int, 3, 6, 132, rc_X4_kinds)
def rc_X4_plugs : rv_C := [
  (0, .iload_n 1, 1, 0, 0, 0, 0, []),
  (1, .iconst 1, 1, 0, 0, 0, 1, []),
  (2, .if_icmp .lt 9, 3, 0, 0, 0, 0, []),
  (5, .iload_n 1, 1, 0, 0, 0, 0, []),
  (6, .bipush 20, 2, 0, 0, 0, 20, []),
  (8, .if_icmp .le 9, 3, 0, 0, 0, 0, []),
  (11, .aload_n 0, 1, 0, 0, 0, 0, []),
  (12, .iconst 0, 1, 0, 0, 0, 0, []),
  (13, .invokevirtual 60, 3, 95, 9, 226, 0, []),
  (16, .ireturn, 1, 0, 0, 0, 0, []),
  (17, .aload_n 0, 1, 0, 0, 0, 0, []),
  (18, .getfield 12, 3, 3, 3, 188, 0, []),
  (21, .getfield 142, 3, 1, 91, 111, 0, []),
  (24, .ldc 145, 2, 0, 0, 343, 99999, []),
  (26, .iload_n 1, 1, 0, 0, 0, 0, []),
  (27, .isub, 1, 0, 0, 0, 0, []),
  (28, .if_icmp .le 9, 3, 0, 0, 0, 0, []),
  (31, .aload_n 0, 1, 0, 0, 0, 0, []),
  (32, .iconst 4, 1, 0, 0, 0, 4, []),
  (33, .invokevirtual 60, 3, 95, 9, 226, 0, []),
  (36, .ireturn, 1, 0, 0, 0, 0, []),
  (37, .iconst 0, 1, 0, 0, 0, 0, []),
  (38, .istore_n 2, 1, 0, 0, 0, 0, []),
  (39, .iload_n 2, 1, 0, 0, 0, 0, []),
  (40, .iload_n 1, 1, 0, 0, 0, 0, []),
  (41, .if_icmp .ge 33, 3, 0, 0, 0, 0, []),
  (44, .aload_n 0, 1, 0, 0, 0, 0, []),
  (45, .getfield 12, 3, 3, 3, 188, 0, []),
  (48, .aload_n 0, 1, 0, 0, 0, 0, []),
  (49, .getfield 12, 3, 3, 3, 188, 0, []),
  (52, .invokevirtual 203, 3, 19, 5, 504, 0, []),
  (55, .bipush 10, 2, 0, 0, 0, 10, []),
  (57, .irem, 1, 0, 0, 0, 0, []),
  (58, .invokevirtual 87, 3, 18, 8, 267, 0, []),
  (61, .aload_n 0, 1, 0, 0, 0, 0, []),
  (62, .getfield 12, 3, 3, 3, 188, 0, []),
  (65, .invokevirtual 173, 3, 21, 4, 429, 0, []),
  (68, .iinc 2 1, 3, 0, 0, 0, 1, []),
  (71, .goto (-32), 3, 0, 0, 0, 0, []),
  (74, .aload_n 0, 1, 0, 0, 0, 0, []),
  (75, .getfield 12, 3, 3, 3, 188, 0, []),
  (78, .invokevirtual 149, 3, 35, 5, 382, 0, []),
  (81, .ireturn, 1, 0, 0, 0, 0, [])]
def rm_X4_plugs : rv_M := (yX4_plugs, cX4_plugs, 3, some .int, 3, 5, 109, rc_X4_plugs)
def rc_X4_odds : rv_C := [
  (0, .iload_n 1, 1, 0, 0, 0, 0, []),
  (1, .bipush 18, 2, 0, 0, 0, 18, []),
  (3, .invokestatic 56, 3, 96, 9, 223, 0, []),
  (6, .ifCond .eq 11, 3, 0, 0, 0, 0, []),
  (9, .iload_n 2, 1, 0, 0, 0, 0, []),
  (10, .iconst 1, 1, 0, 0, 0, 1, []),
  (11, .invokestatic 56, 3, 96, 9, 223, 0, []),
  (14, .ifCond .ne 10, 3, 0, 0, 0, 0, []),
  (17, .aload_n 0, 1, 0, 0, 0, 0, []),
  (18, .iconst 0, 1, 0, 0, 0, 0, []),
  (19, .invokevirtual 60, 3, 95, 9, 226, 0, []),
  (22, .i2l, 1, 0, 0, 0, 0, []),
  (23, .lreturn, 1, 0, 0, 0, 0, []),
  (24, .aload_n 0, 1, 0, 0, 0, 0, []),
  (25, .getfield 12, 3, 3, 3, 188, 0, []),
  (28, .invokevirtual 206, 3, 34, 5, 513, 0, []),
  (31, .istore_n 3, 1, 0, 0, 0, 0, []),
  (32, .iload_n 3, 1, 0, 0, 0, 0, []),
  (33, .bipush 10, 2, 0, 0, 0, 10, []),
  (35, .invokestatic 209, 3, 102, 9, 518, 0, []),
  (38, .istore 4, 2, 0, 0, 0, 0, []),
  (40, .iload_n 2, 1, 0, 0, 0, 0, []),
  (41, .ifCond .ne 7, 3, 0, 0, 0, 0, []),
  (44, .iload_n 3, 1, 0, 0, 0, 0, []),
  (45, .goto 5, 3, 0, 0, 0, 0, []),
  (48, .bipush 10, 2, 0, 0, 0, 10, []),
  (50, .iload 4, 2, 0, 0, 0, 0, [0, 2, 3]),
  (52, .idiv, 1, 0, 0, 0, 0, []),
  (53, .i2l, 1, 0, 0, 0, 0, []),
  (54, .lstore 5, 2, 0, 0, 0, 0, []),
  (56, .lconst 1, 1, 0, 0, 0, 1, []),
  (57, .lstore 7, 2, 0, 0, 0, 0, []),
  (59, .iconst 0, 1, 0, 0, 0, 0, []),
  (60, .istore 9, 2, 0, 0, 0, 0, []),
  (62, .iload 9, 2, 0, 0, 0, 0, [4]),
  (64, .iload_n 1, 1, 0, 0, 0, 0, []),
  (65, .if_icmp .ge 16, 3, 0, 0, 0, 0, []),
  (68, .lload 7, 2, 0, 0, 0, 0, []),
  (70, .lload 5, 2, 0, 0, 0, 0, []),
  (72, .lmul, 1, 0, 0, 0, 0, []),
  (73, .lstore 7, 2, 0, 0, 0, 0, []),
  (75, .iinc 9 1, 3, 0, 0, 0, 1, []),
  (78, .goto (-16), 3, 0, 0, 0, 0, []),
  (81, .lload 7, 2, 0, 0, 0, 0, []),
  (83, .lreturn, 1, 0, 0, 0, 0, [])]
def rm_X4_odds : rv_M := (yX4_odds, cX4_odds, 10, some .long, 3, 2, 45, rc_X4_odds)
def rc_X4_seed : rv_C := [
  (0, .aload_n 0, 1, 0, 0, 0, 0, []),
  (1, .getfield 12, 3, 3, 3, 188, 0, []),
  (4, .getfield 212, 3, 1, 101, 113, 0, []),
  (7, .istore_n 2, 1, 0, 0, 0, 0, []),
  (8, .aload_n 0, 1, 0, 0, 0, 0, []),
  (9, .getfield 12, 3, 3, 3, 188, 0, []),
  (12, .iload_n 1, 1, 0, 0, 0, 0, []),
  (13, .putfield 212, 3, 1, 101, 113, 0, []),
  (16, .iload_n 2, 1, 0, 0, 0, 0, []),
  (17, .ireturn, 1, 0, 0, 0, 0, [])]
def rm_X4_seed : rv_M := (yX4_seed, cX4_seed, 3, some .int, 3, 0, 0, rc_X4_seed)
def rc_X4_feed : rv_C := [
  (0, .iload_n 2, 1, 0, 0, 0, 0, []),
  (1, .iconst 1, 1, 0, 0, 0, 1, []),
  (2, .if_icmp .lt 8, 3, 0, 0, 0, 0, []),
  (5, .iload_n 2, 1, 0, 0, 0, 0, []),
  (6, .iconst 4, 1, 0, 0, 0, 4, []),
  (7, .if_icmp .le 9, 3, 0, 0, 0, 0, []),
  (10, .aload_n 0, 1, 0, 0, 0, 0, []),
  (11, .iconst 0, 1, 0, 0, 0, 0, []),
  (12, .invokevirtual 60, 3, 95, 9, 226, 0, []),
  (15, .ireturn, 1, 0, 0, 0, 0, []),
  (16, .aload_n 0, 1, 0, 0, 0, 0, []),
  (17, .getfield 43, 3, 3, 71, 195, 0, []),
  (20, .bipush 120, 2, 0, 0, 0, 120, []),
  (22, .iload_n 2, 1, 0, 0, 0, 0, []),
  (23, .isub, 1, 0, 0, 0, 0, []),
  (24, .if_icmp .le 9, 3, 0, 0, 0, 0, []),
  (27, .aload_n 0, 1, 0, 0, 0, 0, []),
  (28, .iconst 1, 1, 0, 0, 0, 1, []),
  (29, .invokevirtual 60, 3, 95, 9, 226, 0, []),
  (32, .ireturn, 1, 0, 0, 0, 0, []),
  (33, .iload_n 2, 1, 0, 0, 0, 0, []),
  (34, .iconst 1, 1, 0, 0, 0, 1, []),
  (35, .isub, 1, 0, 0, 0, 0, []),
  (36, .istore_n 3, 1, 0, 0, 0, 0, []),
  (37, .iload_n 3, 1, 0, 0, 0, 0, [2]),
  (38, .ifCond .lt 35, 3, 0, 0, 0, 0, []),
  (41, .aload_n 0, 1, 0, 0, 0, 0, []),
  (42, .getfield 28, 3, 3, 43, 192, 0, []),
  (45, .aload_n 0, 1, 0, 0, 0, 0, []),
  (46, .getfield 43, 3, 3, 71, 195, 0, []),
  (49, .iload_n 1, 1, 0, 0, 0, 0, []),
  (50, .bipush 8, 2, 0, 0, 0, 8, []),
  (52, .iload_n 3, 1, 0, 0, 0, 0, []),
  (53, .imul, 1, 0, 0, 0, 0, []),
  (54, .iushr, 1, 0, 0, 0, 0, []),
  (55, .i2b, 1, 0, 0, 0, 0, []),
  (56, .bastore, 1, 0, 0, 0, 0, []),
  (57, .aload_n 0, 1, 0, 0, 0, 0, []),
  (58, .dup, 1, 0, 0, 0, 0, []),
  (59, .getfield 43, 3, 3, 71, 195, 0, []),
  (62, .iconst 1, 1, 0, 0, 0, 1, []),
  (63, .iadd, 1, 0, 0, 0, 0, []),
  (64, .putfield 43, 3, 3, 71, 195, 0, []),
  (67, .iinc 3 (-1), 3, 0, 0, 0, -1, []),
  (70, .goto (-33), 3, 0, 0, 0, 0, []),
  (73, .aload_n 0, 1, 0, 0, 0, 0, []),
  (74, .getfield 43, 3, 3, 71, 195, 0, []),
  (77, .ireturn, 1, 0, 0, 0, 0, [])]
def rm_X4_feed : rv_M := (yX4_feed, cX4_feed, 4, some .int, 3, 1, 21, rc_X4_feed)
def rc_X4_wipe : rv_C := [
  (0, .aload_n 0, 1, 0, 0, 0, 0, []),
  (1, .getfield 43, 3, 3, 71, 195, 0, []),
  (4, .istore_n 1, 1, 0, 0, 0, 0, []),
  (5, .aload_n 0, 1, 0, 0, 0, 0, []),
  (6, .iconst 0, 1, 0, 0, 0, 0, []),
  (7, .putfield 43, 3, 3, 71, 195, 0, []),
  (10, .iload_n 1, 1, 0, 0, 0, 0, []),
  (11, .ireturn, 1, 0, 0, 0, 0, [])]
def rm_X4_wipe : rv_M := (yX4_wipe, cX4_wipe, 2, some .int, 3, 0, 0, rc_X4_wipe)
def rc_X4_text : rv_C := [
  (0, .aload_n 0, 1, 0, 0, 0, 0, []),
  (1, .getfield 19, 3, 3, 23, 190, 0, []),
  (4, .aload_n 0, 1, 0, 0, 0, 0, []),
  (5, .getfield 12, 3, 3, 3, 188, 0, []),
  (8, .invokevirtual 165, 3, 9, 8, 410, 0, []),
  (11, .aload_n 0, 1, 0, 0, 0, 0, []),
  (12, .getfield 35, 3, 3, 53, 193, 0, []),
  (15, .aload_n 0, 1, 0, 0, 0, 0, []),
  (16, .getfield 28, 3, 3, 43, 192, 0, []),
  (19, .aload_n 0, 1, 0, 0, 0, 0, []),
  (20, .getfield 43, 3, 3, 71, 195, 0, []),
  (23, .aload_n 0, 1, 0, 0, 0, 0, []),
  (24, .getfield 19, 3, 3, 23, 190, 0, []),
  (27, .invokevirtual 215, 3, 38, 17, 538, 0, []),
  (30, .istore_n 1, 1, 0, 0, 0, 0, []),
  (31, .aload_n 0, 1, 0, 0, 0, 0, []),
  (32, .iconst 0, 1, 0, 0, 0, 0, []),
  (33, .putfield 43, 3, 3, 71, 195, 0, []),
  (36, .iload_n 1, 1, 0, 0, 0, 0, []),
  (37, .ifCond .lt 14, 3, 0, 0, 0, 0, []),
  (40, .aload_n 0, 1, 0, 0, 0, 0, []),
  (41, .getfield 12, 3, 3, 3, 188, 0, []),
  (44, .aload_n 0, 1, 0, 0, 0, 0, []),
  (45, .getfield 19, 3, 3, 23, 190, 0, []),
  (48, .invokevirtual 165, 3, 9, 8, 410, 0, []),
  (51, .iload_n 1, 1, 0, 0, 0, 0, []),
  (52, .ireturn, 1, 0, 0, 0, 0, [])]
def rm_X4_text : rv_M := (yX4_text, cX4_text, 2, some .int, 3, 9, 201, rc_X4_text)
def rc_X4_hold : rv_C := [
  (0, .iload_n 1, 1, 0, 0, 0, 0, []),
  (1, .invokestatic 219, 3, 99, 5, 658, 0, []),
  (4, .ifCond .eq 19, 3, 0, 0, 0, 0, []),
  (7, .iload_n 2, 1, 0, 0, 0, 0, []),
  (8, .iconst (-1), 1, 0, 0, 0, -1, []),
  (9, .if_icmp .eq 20, 3, 0, 0, 0, 0, []),
  (12, .aload_n 0, 1, 0, 0, 0, 0, []),
  (13, .getfield 12, 3, 3, 3, 188, 0, []),
  (16, .iload_n 2, 1, 0, 0, 0, 0, []),
  (17, .invokevirtual 104, 3, 10, 9, 291, 0, []),
  (20, .ifCond .ne 9, 3, 0, 0, 0, 0, []),
  (23, .aload_n 0, 1, 0, 0, 0, 0, []),
  (24, .iconst 0, 1, 0, 0, 0, 0, []),
  (25, .invokevirtual 60, 3, 95, 9, 226, 0, []),
  (28, .ireturn, 1, 0, 0, 0, 0, []),
  (29, .aload_n 0, 1, 0, 0, 0, 0, []),
  (30, .getfield 12, 3, 3, 3, 188, 0, []),
  (33, .getfield 222, 3, 1, 63, 104, 0, []),
  (36, .iload_n 1, 1, 0, 0, 0, 0, []),
  (37, .iload_n 2, 1, 0, 0, 0, 0, []),
  (38, .iastore, 1, 0, 0, 0, 0, []),
  (39, .iconst 1, 1, 0, 0, 0, 1, []),
  (40, .ireturn, 1, 0, 0, 0, 0, [])]
def rm_X4_hold : rv_M := (yX4_hold, cX4_hold, 3, some .int, 3, 1, 21, rc_X4_hold)
def rc_X4_as : rv_C := [
  (0, .iload_n 1, 1, 0, 0, 0, 0, []),
  (1, .invokestatic 219, 3, 99, 5, 658, 0, []),
  (4, .ifCond .eq 10, 3, 0, 0, 0, 0, []),
  (7, .iload_n 2, 1, 0, 0, 0, 0, []),
  (8, .invokestatic 91, 3, 0, 5, 276, 0, []),
  (11, .ifCond .ne 9, 3, 0, 0, 0, 0, []),
  (14, .aload_n 0, 1, 0, 0, 0, 0, []),
  (15, .iconst 0, 1, 0, 0, 0, 0, []),
  (16, .invokevirtual 60, 3, 95, 9, 226, 0, []),
  (19, .ireturn, 1, 0, 0, 0, 0, []),
  (20, .aload_n 0, 1, 0, 0, 0, 0, []),
  (21, .getfield 12, 3, 3, 3, 188, 0, []),
  (24, .getfield 222, 3, 1, 63, 104, 0, []),
  (27, .iload_n 1, 1, 0, 0, 0, 0, []),
  (28, .iaload, 1, 0, 0, 0, 0, []),
  (29, .istore_n 3, 1, 0, 0, 0, 0, []),
  (30, .aload_n 0, 1, 0, 0, 0, 0, []),
  (31, .getfield 12, 3, 3, 3, 188, 0, []),
  (34, .iload_n 3, 1, 0, 0, 0, 0, []),
  (35, .invokevirtual 104, 3, 10, 9, 291, 0, []),
  (38, .ifCond .ne 9, 3, 0, 0, 0, 0, []),
  (41, .aload_n 0, 1, 0, 0, 0, 0, []),
  (42, .iconst 5, 1, 0, 0, 0, 5, []),
  (43, .invokevirtual 60, 3, 95, 9, 226, 0, []),
  (46, .ireturn, 1, 0, 0, 0, 0, []),
  (47, .aload_n 0, 1, 0, 0, 0, 0, []),
  (48, .getfield 12, 3, 3, 3, 188, 0, []),
  (51, .getfield 107, 3, 1, 23, 96, 0, []),
  (54, .iload_n 3, 1, 0, 0, 0, 0, []),
  (55, .iaload, 1, 0, 0, 0, 0, []),
  (56, .iload_n 2, 1, 0, 0, 0, 0, []),
  (57, .invokestatic 225, 3, 1, 9, 665, 0, []),
  (60, .ifCond .ne 9, 3, 0, 0, 0, 0, []),
  (63, .aload_n 0, 1, 0, 0, 0, 0, []),
  (64, .iconst 2, 1, 0, 0, 0, 2, []),
  (65, .invokevirtual 60, 3, 95, 9, 226, 0, []),
  (68, .ireturn, 1, 0, 0, 0, 0, []),
  (69, .iload_n 3, 1, 0, 0, 0, 0, []),
  (70, .ireturn, 1, 0, 0, 0, 0, [])]
def rm_X4_as : rv_M := (yX4_as, cX4_as, 4, some .int, 3, 2, 43, rc_X4_as)
def rc_X4_sheet : rv_C := [
  (0, .iload_n 1, 1, 0, 0, 0, 0, []),
  (1, .invokestatic 228, 3, 100, 5, 485, 0, []),
  (4, .ifCond .eq 25, 3, 0, 0, 0, 0, []),
  (7, .iload_n 2, 1, 0, 0, 0, 0, []),
  (8, .ifCond .eq 27, 3, 0, 0, 0, 0, []),
  (11, .iload_n 2, 1, 0, 0, 0, 0, []),
  (12, .bipush 8, 2, 0, 0, 0, 8, []),
  (14, .if_icmp .eq 21, 3, 0, 0, 0, 0, []),
  (17, .iload_n 2, 1, 0, 0, 0, 0, []),
  (18, .bipush 16, 2, 0, 0, 0, 16, []),
  (20, .if_icmp .eq 15, 3, 0, 0, 0, 0, []),
  (23, .iload_n 2, 1, 0, 0, 0, 0, []),
  (24, .bipush 32, 2, 0, 0, 0, 32, []),
  (26, .if_icmp .eq 9, 3, 0, 0, 0, 0, []),
  (29, .aload_n 0, 1, 0, 0, 0, 0, []),
  (30, .iconst 0, 1, 0, 0, 0, 0, []),
  (31, .invokevirtual 60, 3, 95, 9, 226, 0, []),
  (34, .ireturn, 1, 0, 0, 0, 0, []),
  (35, .iload_n 3, 1, 0, 0, 0, 0, []),
  (36, .ifCond .ge 10, 3, 0, 0, 0, 0, []),
  (39, .aload_n 0, 1, 0, 0, 0, 0, []),
  (40, .bipush 6, 2, 0, 0, 0, 6, []),
  (42, .invokevirtual 60, 3, 95, 9, 226, 0, []),
  (45, .ireturn, 1, 0, 0, 0, 0, []),
  (46, .iload_n 3, 1, 0, 0, 0, 0, []),
  (47, .bipush 40, 2, 0, 0, 0, 40, []),
  (49, .if_icmp .le 9, 3, 0, 0, 0, 0, []),
  (52, .aload_n 0, 1, 0, 0, 0, 0, []),
  (53, .iconst 0, 1, 0, 0, 0, 0, []),
  (54, .invokevirtual 60, 3, 95, 9, 226, 0, []),
  (57, .ireturn, 1, 0, 0, 0, 0, []),
  (58, .aload_n 0, 1, 0, 0, 0, 0, []),
  (59, .getfield 24, 3, 3, 33, 191, 0, []),
  (62, .iload_n 1, 1, 0, 0, 0, 0, []),
  (63, .aaload, 1, 0, 0, 0, 0, []),
  (64, .iload_n 2, 1, 0, 0, 0, 0, []),
  (65, .iload_n 3, 1, 0, 0, 0, 0, []),
  (66, .invokevirtual 231, 3, 5, 12, 675, 0, []),
  (69, .iload_n 2, 1, 0, 0, 0, 0, []),
  (70, .ifCond .ne 7, 3, 0, 0, 0, 0, []),
  (73, .iconst 0, 1, 0, 0, 0, 0, []),
  (74, .goto 4, 3, 0, 0, 0, 0, []),
  (77, .iload_n 3, 1, 0, 0, 0, 0, []),
  (78, .ireturn, 1, 0, 0, 0, 0, [])]
def rm_X4_sheet : rv_M := (yX4_sheet, cX4_sheet, 4, some .int, 3, 1, 23, rc_X4_sheet)
def rc_X4_write : rv_C := [
  (0, .aload_n 0, 1, 0, 0, 0, 0, []),
  (1, .iload_n 1, 1, 0, 0, 0, 0, []),
  (2, .invokevirtual 196, 3, 103, 9, 481, 0, []),
  (5, .istore 4, 2, 0, 0, 0, 0, []),
  (7, .iload 4, 2, 0, 0, 0, 0, []),
  (9, .iconst (-1), 1, 0, 0, 0, -1, []),
  (10, .if_icmp .eq 10, 3, 0, 0, 0, 0, []),
  (13, .aload_n 0, 1, 0, 0, 0, 0, []),
  (14, .iload 4, 2, 0, 0, 0, 0, []),
  (16, .invokevirtual 60, 3, 95, 9, 226, 0, []),
  (19, .ireturn, 1, 0, 0, 0, 0, []),
  (20, .iload_n 2, 1, 0, 0, 0, 0, []),
  (21, .ifCond .lt 16, 3, 0, 0, 0, 0, []),
  (24, .iload_n 2, 1, 0, 0, 0, 0, []),
  (25, .aload_n 0, 1, 0, 0, 0, 0, []),
  (26, .getfield 24, 3, 3, 33, 191, 0, []),
  (29, .iload_n 1, 1, 0, 0, 0, 0, []),
  (30, .aaload, 1, 0, 0, 0, 0, []),
  (31, .getfield 234, 3, 0, 21, 180, 0, []),
  (34, .if_icmp .lt 9, 3, 0, 0, 0, 0, []),
  (37, .aload_n 0, 1, 0, 0, 0, 0, []),
  (38, .iconst 0, 1, 0, 0, 0, 0, []),
  (39, .invokevirtual 60, 3, 95, 9, 226, 0, []),
  (42, .ireturn, 1, 0, 0, 0, 0, []),
  (43, .aload_n 0, 1, 0, 0, 0, 0, []),
  (44, .getfield 24, 3, 3, 33, 191, 0, []),
  (47, .iload_n 1, 1, 0, 0, 0, 0, []),
  (48, .aaload, 1, 0, 0, 0, 0, []),
  (49, .iload_n 2, 1, 0, 0, 0, 0, []),
  (50, .iload_n 3, 1, 0, 0, 0, 0, []),
  (51, .invokevirtual 237, 3, 8, 12, 683, 0, []),
  (54, .iconst 1, 1, 0, 0, 0, 1, []),
  (55, .ireturn, 1, 0, 0, 0, 0, [])]
def rm_X4_write : rv_M := (yX4_write, cX4_write, 5, some .int, 3, 2, 41, rc_X4_write)
def rc_X4_copy : rv_C := [
  (0, .iload_n 1, 1, 0, 0, 0, 0, []),
  (1, .invokestatic 228, 3, 100, 5, 485, 0, []),
  (4, .ifCond .eq 10, 3, 0, 0, 0, 0, []),
  (7, .iload_n 3, 1, 0, 0, 0, 0, []),
  (8, .invokestatic 228, 3, 100, 5, 485, 0, []),
  (11, .ifCond .ne 9, 3, 0, 0, 0, 0, []),
  (14, .aload_n 0, 1, 0, 0, 0, 0, []),
  (15, .iconst 0, 1, 0, 0, 0, 0, []),
  (16, .invokevirtual 60, 3, 95, 9, 226, 0, []),
  (19, .ireturn, 1, 0, 0, 0, 0, []),
  (20, .aload_n 0, 1, 0, 0, 0, 0, []),
  (21, .getfield 24, 3, 3, 33, 191, 0, []),
  (24, .iload_n 1, 1, 0, 0, 0, 0, []),
  (25, .aaload, 1, 0, 0, 0, 0, []),
  (26, .astore 6, 2, 0, 0, 0, 0, []),
  (28, .aload_n 0, 1, 0, 0, 0, 0, []),
  (29, .getfield 24, 3, 3, 33, 191, 0, []),
  (32, .iload_n 3, 1, 0, 0, 0, 0, []),
  (33, .aaload, 1, 0, 0, 0, 0, []),
  (34, .astore 7, 2, 0, 0, 0, 0, []),
  (36, .aload 6, 2, 0, 0, 0, 0, []),
  (38, .invokevirtual 240, 3, 6, 5, 488, 0, []),
  (41, .ifCond .ne 11, 3, 0, 0, 0, 0, []),
  (44, .aload 7, 2, 0, 0, 0, 0, []),
  (46, .invokevirtual 240, 3, 6, 5, 488, 0, []),
  (49, .ifCond .eq 9, 3, 0, 0, 0, 0, []),
  (52, .aload_n 0, 1, 0, 0, 0, 0, []),
  (53, .iconst 5, 1, 0, 0, 0, 5, []),
  (54, .invokevirtual 60, 3, 95, 9, 226, 0, []),
  (57, .ireturn, 1, 0, 0, 0, 0, []),
  (58, .aload 6, 2, 0, 0, 0, 0, []),
  (60, .getfield 243, 3, 0, 11, 178, 0, []),
  (63, .aload 7, 2, 0, 0, 0, 0, []),
  (65, .getfield 243, 3, 0, 11, 178, 0, []),
  (68, .if_icmp .eq 9, 3, 0, 0, 0, 0, []),
  (71, .aload_n 0, 1, 0, 0, 0, 0, []),
  (72, .iconst 2, 1, 0, 0, 0, 2, []),
  (73, .invokevirtual 60, 3, 95, 9, 226, 0, []),
  (76, .ireturn, 1, 0, 0, 0, 0, []),
  (77, .aload 6, 2, 0, 0, 0, 0, []),
  (79, .iload_n 2, 1, 0, 0, 0, 0, []),
  (80, .iload 5, 2, 0, 0, 0, 0, []),
  (82, .invokevirtual 246, 3, 7, 13, 691, 0, []),
  (85, .ifCond .eq 15, 3, 0, 0, 0, 0, []),
  (88, .aload 7, 2, 0, 0, 0, 0, []),
  (90, .iload 4, 2, 0, 0, 0, 0, []),
  (92, .iload 5, 2, 0, 0, 0, 0, []),
  (94, .invokevirtual 246, 3, 7, 13, 691, 0, []),
  (97, .ifCond .ne 9, 3, 0, 0, 0, 0, []),
  (100, .aload_n 0, 1, 0, 0, 0, 0, []),
  (101, .iconst 0, 1, 0, 0, 0, 0, []),
  (102, .invokevirtual 60, 3, 95, 9, 226, 0, []),
  (105, .ireturn, 1, 0, 0, 0, 0, []),
  (106, .aload 6, 2, 0, 0, 0, 0, []),
  (108, .getfield 249, 3, 0, 3, 176, 0, []),
  (111, .iload_n 2, 1, 0, 0, 0, 0, []),
  (112, .aload 7, 2, 0, 0, 0, 0, []),
  (114, .getfield 249, 3, 0, 3, 176, 0, []),
  (117, .iload 4, 2, 0, 0, 0, 0, []),
  (119, .iload 5, 2, 0, 0, 0, 0, []),
  (121, .invokestatic 252, 3, 9999, 0, 695, 0, []),
  (124, .iload 5, 2, 0, 0, 0, 0, []),
  (126, .ireturn, 1, 0, 0, 0, 0, [])]
def rm_X4_copy : rv_M := (yX4_copy, cX4_copy, 8, some .int, 3, 1, 26, rc_X4_copy)
def rc_X4_load : rv_C := [
  (0, .aload_n 0, 1, 0, 0, 0, 0, []),
  (1, .iload_n 1, 1, 0, 0, 0, 0, []),
  (2, .invokevirtual 196, 3, 103, 9, 481, 0, []),
  (5, .istore_n 2, 1, 0, 0, 0, 0, []),
  (6, .iload_n 2, 1, 0, 0, 0, 0, []),
  (7, .iconst (-1), 1, 0, 0, 0, -1, []),
  (8, .if_icmp .eq 9, 3, 0, 0, 0, 0, []),
  (11, .aload_n 0, 1, 0, 0, 0, 0, []),
  (12, .iload_n 2, 1, 0, 0, 0, 0, []),
  (13, .invokevirtual 60, 3, 95, 9, 226, 0, []),
  (16, .ireturn, 1, 0, 0, 0, 0, []),
  (17, .aload_n 0, 1, 0, 0, 0, 0, []),
  (18, .getfield 24, 3, 3, 33, 191, 0, []),
  (21, .iload_n 1, 1, 0, 0, 0, 0, []),
  (22, .aaload, 1, 0, 0, 0, 0, []),
  (23, .astore_n 3, 1, 0, 0, 0, 0, []),
  (24, .iconst 0, 1, 0, 0, 0, 0, []),
  (25, .istore 4, 2, 0, 0, 0, 0, []),
  (27, .iload 4, 2, 0, 0, 0, 0, [1, 2]),
  (29, .aload_n 3, 1, 0, 0, 0, 0, []),
  (30, .getfield 234, 3, 0, 21, 180, 0, []),
  (33, .if_icmp .ge 48, 3, 0, 0, 0, 0, []),
  (36, .iload 4, 2, 0, 0, 0, 0, []),
  (38, .bipush 10, 2, 0, 0, 0, 10, []),
  (40, .if_icmp .ge 41, 3, 0, 0, 0, 0, []),
  (43, .aload_n 3, 1, 0, 0, 0, 0, []),
  (44, .getfield 249, 3, 0, 3, 176, 0, []),
  (47, .iload 4, 2, 0, 0, 0, 0, []),
  (49, .iaload, 1, 0, 0, 0, 0, []),
  (50, .bipush 99, 2, 0, 0, 0, 99, []),
  (52, .invokestatic 56, 3, 96, 9, 223, 0, []),
  (55, .ifCond .eq 26, 3, 0, 0, 0, 0, []),
  (58, .aload_n 0, 1, 0, 0, 0, 0, []),
  (59, .getfield 12, 3, 3, 3, 188, 0, []),
  (62, .getfield 64, 3, 1, 3, 92, 0, []),
  (65, .iload 4, 2, 0, 0, 0, 0, []),
  (67, .aload_n 3, 1, 0, 0, 0, 0, []),
  (68, .getfield 249, 3, 0, 3, 176, 0, []),
  (71, .iload 4, 2, 0, 0, 0, 0, []),
  (73, .iaload, 1, 0, 0, 0, 0, []),
  (74, .iastore, 1, 0, 0, 0, 0, []),
  (75, .iinc 4 1, 3, 0, 0, 0, 1, []),
  (78, .goto (-51), 3, 0, 0, 0, 0, []),
  (81, .iload 4, 2, 0, 0, 0, 0, []),
  (83, .ireturn, 1, 0, 0, 0, 0, [])]
def rm_X4_load : rv_M := (yX4_load, cX4_load, 5, some .int, 3, 2, 41, rc_X4_load)
def rc_X4_judge : rv_C := [
  (0, .aload_n 0, 1, 0, 0, 0, 0, []),
  (1, .iload_n 1, 1, 0, 0, 0, 0, []),
  (2, .invokevirtual 196, 3, 103, 9, 481, 0, []),
  (5, .istore_n 2, 1, 0, 0, 0, 0, []),
  (6, .iload_n 2, 1, 0, 0, 0, 0, []),
  (7, .iconst (-1), 1, 0, 0, 0, -1, []),
  (8, .if_icmp .eq 9, 3, 0, 0, 0, 0, []),
  (11, .aload_n 0, 1, 0, 0, 0, 0, []),
  (12, .iload_n 2, 1, 0, 0, 0, 0, []),
  (13, .invokevirtual 60, 3, 95, 9, 226, 0, []),
  (16, .ireturn, 1, 0, 0, 0, 0, []),
  (17, .aload_n 0, 1, 0, 0, 0, 0, []),
  (18, .getfield 24, 3, 3, 33, 191, 0, []),
  (21, .iload_n 1, 1, 0, 0, 0, 0, []),
  (22, .aaload, 1, 0, 0, 0, 0, []),
  (23, .astore_n 3, 1, 0, 0, 0, 0, []),
  (24, .iconst 0, 1, 0, 0, 0, 0, []),
  (25, .istore 4, 2, 0, 0, 0, 0, []),
  (27, .iload 4, 2, 0, 0, 0, 0, [1, 2]),
  (29, .aload_n 3, 1, 0, 0, 0, 0, []),
  (30, .getfield 234, 3, 0, 21, 180, 0, []),
  (33, .if_icmp .ge 46, 3, 0, 0, 0, 0, []),
  (36, .aload_n 0, 1, 0, 0, 0, 0, []),
  (37, .getfield 12, 3, 3, 3, 188, 0, []),
  (40, .iload 4, 2, 0, 0, 0, 0, []),
  (42, .invokevirtual 104, 3, 10, 9, 291, 0, []),
  (45, .ifCond .eq 23, 3, 0, 0, 0, 0, []),
  (48, .aload_n 0, 1, 0, 0, 0, 0, []),
  (49, .getfield 12, 3, 3, 3, 188, 0, []),
  (52, .getfield 116, 3, 1, 53, 102, 0, []),
  (55, .iload 4, 2, 0, 0, 0, 0, []),
  (57, .iaload, 1, 0, 0, 0, 0, []),
  (58, .aload_n 3, 1, 0, 0, 0, 0, []),
  (59, .getfield 249, 3, 0, 3, 176, 0, []),
  (62, .iload 4, 2, 0, 0, 0, 0, []),
  (64, .iaload, 1, 0, 0, 0, 0, []),
  (65, .if_icmp .eq 8, 3, 0, 0, 0, 0, []),
  (68, .iconst 1, 1, 0, 0, 0, 1, []),
  (69, .iload 4, 2, 0, 0, 0, 0, []),
  (71, .iadd, 1, 0, 0, 0, 0, []),
  (72, .ireturn, 1, 0, 0, 0, 0, []),
  (73, .iinc 4 1, 3, 0, 0, 0, 1, []),
  (76, .goto (-49), 3, 0, 0, 0, 0, []),
  (79, .iconst 0, 1, 0, 0, 0, 0, []),
  (80, .ireturn, 1, 0, 0, 0, 0, [])]
def rm_X4_judge : rv_M := (yX4_judge, cX4_judge, 5, some .int, 3, 2, 41, rc_X4_judge)
def rc_X4_image : rv_C := [
  (0, .aload_n 0, 1, 0, 0, 0, 0, []),
  (1, .getfield 16, 3, 3, 13, 189, 0, []),
  (4, .aload_n 0, 1, 0, 0, 0, 0, []),
  (5, .getfield 12, 3, 3, 3, 188, 0, []),
  (8, .invokevirtual 165, 3, 9, 8, 410, 0, []),
  (11, .aload_n 0, 1, 0, 0, 0, 0, []),
  (12, .iconst 1, 1, 0, 0, 0, 1, []),
  (13, .putfield 47, 3, 3, 82, 196, 0, []),
  (16, .iconst 1, 1, 0, 0, 0, 1, []),
  (17, .ireturn, 1, 0, 0, 0, 0, [])]
def rm_X4_image : rv_M := (yX4_image, cX4_image, 1, some .int, 3, 2, 47, rc_X4_image)
def rc_X4_undo : rv_C := [
  (0, .aload_n 0, 1, 0, 0, 0, 0, []),
  (1, .getfield 47, 3, 3, 81, 196, 0, []),
  (4, .ifCond .ne 9, 3, 0, 0, 0, 0, []),
  (7, .aload_n 0, 1, 0, 0, 0, 0, []),
  (8, .iconst 3, 1, 0, 0, 0, 3, []),
  (9, .invokevirtual 60, 3, 95, 9, 226, 0, []),
  (12, .ireturn, 1, 0, 0, 0, 0, []),
  (13, .aload_n 0, 1, 0, 0, 0, 0, []),
  (14, .getfield 12, 3, 3, 3, 188, 0, []),
  (17, .aload_n 0, 1, 0, 0, 0, 0, []),
  (18, .getfield 16, 3, 3, 13, 189, 0, []),
  (21, .invokevirtual 165, 3, 9, 8, 410, 0, []),
  (24, .aload_n 0, 1, 0, 0, 0, 0, []),
  (25, .getfield 12, 3, 3, 3, 188, 0, []),
  (28, .getfield 142, 3, 1, 91, 111, 0, []),
  (31, .ireturn, 1, 0, 0, 0, 0, [])]
def rm_X4_undo : rv_M := (yX4_undo, cX4_undo, 1, some .int, 3, 2, 47, rc_X4_undo)
def rc_X4_tear : rv_C := [
  (0, .aload_n 0, 1, 0, 0, 0, 0, []),
  (1, .getfield 47, 3, 3, 81, 196, 0, []),
  (4, .ifCond .eq 7, 3, 0, 0, 0, 0, []),
  (7, .iconst 1, 1, 0, 0, 0, 1, []),
  (8, .goto 4, 3, 0, 0, 0, 0, []),
  (11, .iconst 0, 1, 0, 0, 0, 0, []),
  (12, .istore_n 1, 1, 0, 0, 0, 0, []),
  (13, .aload_n 0, 1, 0, 0, 0, 0, []),
  (14, .iconst 0, 1, 0, 0, 0, 0, []),
  (15, .putfield 47, 3, 3, 82, 196, 0, []),
  (18, .iload_n 1, 1, 0, 0, 0, 0, []),
  (19, .ireturn, 1, 0, 0, 0, 0, [])]
def rm_X4_tear : rv_M := (yX4_tear, cX4_tear, 2, some .int, 3, 0, 0, rc_X4_tear)
def rc_X4_count : rv_C := [
  (0, .iload_n 1, 1, 0, 0, 0, 0, []),
  (1, .bipush 7, 2, 0, 0, 0, 7, []),
  (3, .invokestatic 56, 3, 96, 9, 223, 0, []),
  (6, .ifCond .ne 9, 3, 0, 0, 0, 0, []),
  (9, .aload_n 0, 1, 0, 0, 0, 0, []),
  (10, .iconst 0, 1, 0, 0, 0, 0, []),
  (11, .invokevirtual 60, 3, 95, 9, 226, 0, []),
  (14, .ireturn, 1, 0, 0, 0, 0, []),
  (15, .iload_n 1, 1, 0, 0, 0, 0, []),
  (16, .tableswitch 97 1 7 #[44, 52, 60, 68, 76, 81, 89], 44, 0, 0, 0, 0, []),
  (60, .aload_n 0, 1, 0, 0, 0, 0, []),
  (61, .getfield 12, 3, 3, 3, 188, 0, []),
  (64, .getfield 179, 3, 1, 71, 106, 0, []),
  (67, .ireturn, 1, 0, 0, 0, 0, []),
  (68, .aload_n 0, 1, 0, 0, 0, 0, []),
  (69, .getfield 12, 3, 3, 3, 188, 0, []),
  (72, .invokevirtual 258, 3, 32, 5, 720, 0, []),
  (75, .ireturn, 1, 0, 0, 0, 0, []),
  (76, .aload_n 0, 1, 0, 0, 0, 0, []),
  (77, .getfield 12, 3, 3, 3, 188, 0, []),
  (80, .invokevirtual 149, 3, 35, 5, 382, 0, []),
  (83, .ireturn, 1, 0, 0, 0, 0, []),
  (84, .aload_n 0, 1, 0, 0, 0, 0, []),
  (85, .getfield 12, 3, 3, 3, 188, 0, []),
  (88, .invokevirtual 153, 3, 36, 5, 386, 0, []),
  (91, .ireturn, 1, 0, 0, 0, 0, []),
  (92, .aload_n 0, 1, 0, 0, 0, 0, []),
  (93, .getfield 43, 3, 3, 71, 195, 0, []),
  (96, .ireturn, 1, 0, 0, 0, 0, []),
  (97, .aload_n 0, 1, 0, 0, 0, 0, []),
  (98, .getfield 12, 3, 3, 3, 188, 0, []),
  (101, .getfield 212, 3, 1, 101, 113, 0, []),
  (104, .ireturn, 1, 0, 0, 0, 0, []),
  (105, .aload_n 0, 1, 0, 0, 0, 0, []),
  (106, .getfield 12, 3, 3, 3, 188, 0, []),
  (109, .invokevirtual 261, 3, 37, 5, 725, 0, []),
  (112, .ireturn, 1, 0, 0, 0, 0, []),
  (113, .aload_n 0, 1, 0, 0, 0, 0, []),
  (114, .getfield 12, 3, 3, 3, 188, 0, []),
  (117, .getfield 142, 3, 1, 91, 111, 0, []),
  (120, .ireturn, 1, 0, 0, 0, 0, [])]
def rm_X4_count : rv_M := (yX4_count, cX4_count, 2, some .int, 3, 2, 42, rc_X4_count)
def rc_X4_status : rv_C := [
  (0, .iload_n 1, 1, 0, 0, 0, 0, []),
  (1, .iconst (-1), 1, 0, 0, 0, -1, []),
  (2, .if_icmp .lt 9, 3, 0, 0, 0, 0, []),
  (5, .iload_n 1, 1, 0, 0, 0, 0, []),
  (6, .bipush 7, 2, 0, 0, 0, 7, []),
  (8, .if_icmp .lt 9, 3, 0, 0, 0, 0, []),
  (11, .aload_n 0, 1, 0, 0, 0, 0, []),
  (12, .iconst 0, 1, 0, 0, 0, 0, []),
  (13, .invokevirtual 60, 3, 95, 9, 226, 0, []),
  (16, .ireturn, 1, 0, 0, 0, 0, []),
  (17, .iload_n 1, 1, 0, 0, 0, 0, []),
  (18, .ifCond .lt 10, 3, 0, 0, 0, 0, []),
  (21, .aload_n 0, 1, 0, 0, 0, 0, []),
  (22, .getfield 39, 3, 3, 63, 194, 0, []),
  (25, .iload_n 1, 1, 0, 0, 0, 0, []),
  (26, .iaload, 1, 0, 0, 0, 0, []),
  (27, .ireturn, 1, 0, 0, 0, 0, []),
  (28, .iconst 0, 1, 0, 0, 0, 0, []),
  (29, .istore_n 2, 1, 0, 0, 0, 0, []),
  (30, .aload_n 0, 1, 0, 0, 0, 0, []),
  (31, .getfield 39, 3, 3, 63, 194, 0, []),
  (34, .astore_n 3, 1, 0, 0, 0, 0, []),
  (35, .aload_n 3, 1, 0, 0, 0, 0, []),
  (36, .arraylength, 1, 0, 0, 0, 0, []),
  (37, .istore 4, 2, 0, 0, 0, 0, []),
  (39, .iconst 0, 1, 0, 0, 0, 0, []),
  (40, .istore 5, 2, 0, 0, 0, 0, []),
  (42, .iload 5, 2, 0, 0, 0, 0, [0, 1, 6]),
  (44, .iload 4, 2, 0, 0, 0, 0, []),
  (46, .if_icmp .ge 20, 3, 0, 0, 0, 0, []),
  (49, .aload_n 3, 1, 0, 0, 0, 0, []),
  (50, .iload 5, 2, 0, 0, 0, 0, []),
  (52, .iaload, 1, 0, 0, 0, 0, []),
  (53, .istore 6, 2, 0, 0, 0, 0, []),
  (55, .iload_n 2, 1, 0, 0, 0, 0, []),
  (56, .iload 6, 2, 0, 0, 0, 0, []),
  (58, .iadd, 1, 0, 0, 0, 0, []),
  (59, .istore_n 2, 1, 0, 0, 0, 0, []),
  (60, .iinc 5 1, 3, 0, 0, 0, 1, []),
  (63, .goto (-21), 3, 0, 0, 0, 0, []),
  (66, .iload_n 2, 1, 0, 0, 0, 0, []),
  (67, .ireturn, 1, 0, 0, 0, 0, [])]
def rm_X4_status : rv_M := (yX4_status, cX4_status, 7, some .int, 3, 1, 21, rc_X4_status)
def rc_X4_finding : rv_C := [
  (0, .aload_n 0, 1, 0, 0, 0, 0, []),
  (1, .getfield 39, 3, 3, 63, 194, 0, []),
  (4, .iload_n 1, 1, 0, 0, 0, 0, []),
  (5, .dup2, 1, 0, 0, 0, 0, []),
  (6, .iaload, 1, 0, 0, 0, 0, []),
  (7, .iconst 1, 1, 0, 0, 0, 1, []),
  (8, .iadd, 1, 0, 0, 0, 0, []),
  (9, .iastore, 1, 0, 0, 0, 0, []),
  (10, .ldc_w 264, 3, 0, 0, 230, -1000001, []),
  (13, .iload_n 1, 1, 0, 0, 0, 0, []),
  (14, .isub, 1, 0, 0, 0, 0, []),
  (15, .ireturn, 1, 0, 0, 0, 0, [])]
def rm_X4_finding : rv_M := (yX4_finding, cX4_finding, 2, some .int, 3, 0, 0, rc_X4_finding)
def rc_X4_isWithin : rv_C := [
  (0, .iload_n 0, 1, 0, 0, 0, 0, []),
  (1, .ifCond .lt 12, 3, 0, 0, 0, 0, []),
  (4, .iload_n 0, 1, 0, 0, 0, 0, []),
  (5, .iload_n 1, 1, 0, 0, 0, 0, []),
  (6, .if_icmp .gt 7, 3, 0, 0, 0, 0, []),
  (9, .iconst 1, 1, 0, 0, 0, 1, []),
  (10, .goto 4, 3, 0, 0, 0, 0, []),
  (13, .iconst 0, 1, 0, 0, 0, 0, []),
  (14, .ireturn, 1, 1, 0, 0, 0, [])]
def rm_X4_isWithin : rv_M := (yX4_isWithin, cX4_isWithin, 2, some .boolean, 99, 0, 0, rc_X4_isWithin)
def rc_X4_isTub : rv_C := [
  (0, .iload_n 0, 1, 0, 0, 0, 0, []),
  (1, .ifCond .lt 13, 3, 0, 0, 0, 0, []),
  (4, .iload_n 0, 1, 0, 0, 0, 0, []),
  (5, .bipush 10, 2, 0, 0, 0, 10, []),
  (7, .if_icmp .ge 7, 3, 0, 0, 0, 0, []),
  (10, .iconst 1, 1, 0, 0, 0, 1, []),
  (11, .goto 4, 3, 0, 0, 0, 0, []),
  (14, .iconst 0, 1, 0, 0, 0, 0, []),
  (15, .ireturn, 1, 1, 0, 0, 0, [])]
def rm_X4_isTub : rv_M := (yX4_isTub, cX4_isTub, 1, some .boolean, 99, 0, 0, rc_X4_isTub)
def rc_X4_isScent : rv_C := [
  (0, .iload_n 0, 1, 0, 0, 0, 0, []),
  (1, .ifCond .lt 12, 3, 0, 0, 0, 0, []),
  (4, .iload_n 0, 1, 0, 0, 0, 0, []),
  (5, .iconst 4, 1, 0, 0, 0, 4, []),
  (6, .if_icmp .ge 7, 3, 0, 0, 0, 0, []),
  (9, .iconst 1, 1, 0, 0, 0, 1, []),
  (10, .goto 4, 3, 0, 0, 0, 0, []),
  (13, .iconst 0, 1, 0, 0, 0, 0, []),
  (14, .ireturn, 1, 1, 0, 0, 0, [])]
def rm_X4_isScent : rv_M := (yX4_isScent, cX4_isScent, 1, some .boolean, 99, 0, 0, rc_X4_isScent)
def rc_X4_isSpot : rv_C := [
  (0, .iload_n 0, 1, 0, 0, 0, 0, []),
  (1, .ifCond .lt 13, 3, 0, 0, 0, 0, []),
  (4, .iload_n 0, 1, 0, 0, 0, 0, []),
  (5, .bipush 10, 2, 0, 0, 0, 10, []),
  (7, .if_icmp .ge 7, 3, 0, 0, 0, 0, []),
  (10, .iconst 1, 1, 0, 0, 0, 1, []),
  (11, .goto 4, 3, 0, 0, 0, 0, []),
  (14, .iconst 0, 1, 0, 0, 0, 0, []),
  (15, .ireturn, 1, 1, 0, 0, 0, [])]
def rm_X4_isSpot : rv_M := (yX4_isSpot, cX4_isSpot, 1, some .boolean, 99, 0, 0, rc_X4_isSpot)
def rc_X4_isSheet : rv_C := [
  (0, .iload_n 0, 1, 0, 0, 0, 0, []),
  (1, .ifCond .lt 12, 3, 0, 0, 0, 0, []),
  (4, .iload_n 0, 1, 0, 0, 0, 0, []),
  (5, .iconst 4, 1, 0, 0, 0, 4, []),
  (6, .if_icmp .ge 7, 3, 0, 0, 0, 0, []),
  (9, .iconst 1, 1, 0, 0, 0, 1, []),
  (10, .goto 4, 3, 0, 0, 0, 0, []),
  (13, .iconst 0, 1, 0, 0, 0, 0, []),
  (14, .ireturn, 1, 1, 0, 0, 0, [])]
def rm_X4_isSheet : rv_M := (yX4_isSheet, cX4_isSheet, 1, some .boolean, 99, 0, 0, rc_X4_isSheet)
def rc_X4_mostOf : rv_C := [
  (0, .iload_n 0, 1, 0, 0, 0, 0, []),
  (1, .tableswitch 35 0 2 #[27, 30, 33], 27, 0, 0, 0, 0, []),
  (28, .bipush 6, 2, 0, 0, 0, 6, []),
  (30, .ireturn, 1, 0, 0, 0, 0, []),
  (31, .bipush 9, 2, 0, 0, 0, 9, []),
  (33, .ireturn, 1, 0, 0, 0, 0, []),
  (34, .iconst 3, 1, 0, 0, 0, 3, []),
  (35, .ireturn, 1, 0, 0, 0, 0, []),
  (36, .bipush 15, 2, 0, 0, 0, 15, []),
  (38, .ireturn, 1, 0, 0, 0, 0, [])]
def rm_X4_mostOf : rv_M := (yX4_mostOf, cX4_mostOf, 1, some .int, 99, 0, 0, rc_X4_mostOf)
def rc_X4_greatestCommonPart : rv_C := [
  (0, .iload_n 0, 1, 0, 0, 0, 0, []),
  (1, .iload_n 1, 1, 0, 0, 0, 0, []),
  (2, .invokestatic 265, 3, 9997, 0, 521, 0, []),
  (5, .istore_n 2, 1, 0, 0, 0, 0, []),
  (6, .iload_n 2, 1, 0, 0, 0, 0, []),
  (7, .iconst 1, 1, 0, 0, 0, 1, []),
  (8, .if_icmp .le 23, 3, 0, 0, 0, 0, []),
  (11, .iload_n 0, 1, 0, 0, 0, 0, []),
  (12, .iload_n 2, 1, 0, 0, 0, 0, []),
  (13, .irem, 1, 0, 0, 0, 0, []),
  (14, .ifCond .ne 11, 3, 0, 0, 0, 0, []),
  (17, .iload_n 1, 1, 0, 0, 0, 0, []),
  (18, .iload_n 2, 1, 0, 0, 0, 0, []),
  (19, .irem, 1, 0, 0, 0, 0, []),
  (20, .ifCond .ne 5, 3, 0, 0, 0, 0, []),
  (23, .iload_n 2, 1, 0, 0, 0, 0, []),
  (24, .ireturn, 1, 0, 0, 0, 0, []),
  (25, .iinc 2 (-1), 3, 0, 0, 0, -1, []),
  (28, .goto (-22), 3, 0, 0, 0, 0, []),
  (31, .iconst 1, 1, 0, 0, 0, 1, []),
  (32, .ireturn, 1, 0, 0, 0, 0, [])]
def rm_X4_greatestCommonPart : rv_M := (yX4_greatestCommonPart, cX4_greatestCommonPart, 3, some .int, 99, 1, 21, rc_X4_greatestCommonPart)
def rc_X4_lackOf : rv_C := [
  (0, .iload_n 1, 1, 0, 0, 0, 0, []),
  (1, .invokestatic 228, 3, 100, 5, 485, 0, []),
  (4, .ifCond .ne 5, 3, 0, 0, 0, 0, []),
  (7, .iconst 0, 1, 0, 0, 0, 0, []),
  (8, .ireturn, 1, 0, 0, 0, 0, []),
  (9, .aload_n 0, 1, 0, 0, 0, 0, []),
  (10, .getfield 24, 3, 3, 33, 191, 0, []),
  (13, .iload_n 1, 1, 0, 0, 0, 0, []),
  (14, .aaload, 1, 0, 0, 0, 0, []),
  (15, .invokevirtual 240, 3, 6, 5, 488, 0, []),
  (18, .ifCond .eq 7, 3, 0, 0, 0, 0, []),
  (21, .iconst 5, 1, 0, 0, 0, 5, []),
  (22, .goto 4, 3, 0, 0, 0, 0, []),
  (25, .iconst (-1), 1, 0, 0, 0, -1, []),
  (26, .ireturn, 1, 0, 0, 0, 0, [])]
def rm_X4_lackOf : rv_M := (yX4_lackOf, cX4_lackOf, 2, some .int, 3, 1, 20, rc_X4_lackOf)
def rc_X4_hoursUntilKnown : rv_C := [
  (0, .iconst 0, 1, 0, 0, 0, 0, []),
  (1, .istore 4, 2, 0, 0, 0, 0, []),
  (3, .iload 4, 2, 0, 0, 0, 0, []),
  (5, .iload_n 3, 1, 0, 0, 0, 0, []),
  (6, .if_icmp .gt 35, 3, 0, 0, 0, 0, []),
  (9, .aload_n 0, 1, 0, 0, 0, 0, []),
  (10, .getfield 19, 3, 3, 23, 190, 0, []),
  (13, .getfield 116, 3, 1, 53, 102, 0, []),
  (16, .iload_n 1, 1, 0, 0, 0, 0, []),
  (17, .iaload, 1, 0, 0, 0, 0, []),
  (18, .iload_n 2, 1, 0, 0, 0, 0, []),
  (19, .ishr, 1, 0, 0, 0, 0, []),
  (20, .iconst 1, 1, 0, 0, 0, 1, []),
  (21, .iand, 1, 0, 0, 0, 0, []),
  (22, .ifCond .eq 6, 3, 0, 0, 0, 0, []),
  (25, .iload 4, 2, 0, 0, 0, 0, []),
  (27, .ireturn, 1, 0, 0, 0, 0, []),
  (28, .aload_n 0, 1, 0, 0, 0, 0, []),
  (29, .getfield 19, 3, 3, 23, 190, 0, []),
  (32, .invokevirtual 173, 3, 21, 4, 429, 0, []),
  (35, .iinc 4 1, 3, 0, 0, 0, 1, []),
  (38, .goto (-35), 3, 0, 0, 0, 0, []),
  (41, .iconst (-1), 1, 0, 0, 0, -1, []),
  (42, .ireturn, 1, 0, 0, 0, 0, [])]
def rm_X4_hoursUntilKnown : rv_M := (yX4_hoursUntilKnown, cX4_hoursUntilKnown, 5, some .int, 3, 5, 109, rc_X4_hoursUntilKnown)
def rc_X4_isLearned : rv_C := [
  (0, .aload_n 0, 1, 0, 0, 0, 0, []),
  (1, .getfield 19, 3, 3, 23, 190, 0, []),
  (4, .iload_n 1, 1, 0, 0, 0, 0, []),
  (5, .invokevirtual 193, 3, 29, 9, 468, 0, []),
  (8, .istore_n 3, 1, 0, 0, 0, 0, []),
  (9, .iconst 0, 1, 0, 0, 0, 0, []),
  (10, .istore 4, 2, 0, 0, 0, 0, []),
  (12, .iload 4, 2, 0, 0, 0, 0, []),
  (14, .iload_n 2, 1, 0, 0, 0, 0, []),
  (15, .if_icmp .ge 30, 3, 0, 0, 0, 0, []),
  (18, .aload_n 0, 1, 0, 0, 0, 0, []),
  (19, .getfield 19, 3, 3, 23, 190, 0, []),
  (22, .invokevirtual 173, 3, 21, 4, 429, 0, []),
  (25, .aload_n 0, 1, 0, 0, 0, 0, []),
  (26, .getfield 19, 3, 3, 23, 190, 0, []),
  (29, .iload_n 1, 1, 0, 0, 0, 0, []),
  (30, .invokevirtual 193, 3, 29, 9, 468, 0, []),
  (33, .iload_n 3, 1, 0, 0, 0, 0, []),
  (34, .if_icmp .eq 5, 3, 0, 0, 0, 0, []),
  (37, .iconst 1, 1, 0, 0, 0, 1, []),
  (38, .ireturn, 1, 1, 0, 0, 0, []),
  (39, .iinc 4 1, 3, 0, 0, 0, 1, []),
  (42, .goto (-30), 3, 0, 0, 0, 0, []),
  (45, .iconst 0, 1, 0, 0, 0, 0, []),
  (46, .ireturn, 1, 1, 0, 0, 0, [])]
def rm_X4_isLearned : rv_M := (yX4_isLearned, cX4_isLearned, 5, some .boolean, 3, 5, 109, rc_X4_isLearned)
def rc_X4_comesOutAs : rv_C := [
  (0, .iconst 0, 1, 0, 0, 0, 0, []),
  (1, .istore_n 2, 1, 0, 0, 0, 0, []),
  (2, .iload_n 2, 1, 0, 0, 0, 0, [3]),
  (3, .aload_n 1, 1, 0, 0, 0, 0, []),
  (4, .getfield 234, 3, 0, 21, 180, 0, []),
  (7, .if_icmp .ge 48, 3, 0, 0, 0, 0, []),
  (10, .iload_n 2, 1, 0, 0, 0, 0, []),
  (11, .ifCond .le 10, 3, 0, 0, 0, 0, []),
  (14, .aload_n 0, 1, 0, 0, 0, 0, []),
  (15, .getfield 19, 3, 3, 23, 190, 0, []),
  (18, .invokevirtual 173, 3, 21, 4, 429, 0, []),
  (21, .aload_n 1, 1, 0, 0, 0, 0, []),
  (22, .getfield 249, 3, 0, 3, 176, 0, []),
  (25, .iload_n 2, 1, 0, 0, 0, 0, []),
  (26, .iaload, 1, 0, 0, 0, 0, []),
  (27, .istore_n 3, 1, 0, 0, 0, 0, []),
  (28, .iload_n 3, 1, 0, 0, 0, 0, []),
  (29, .iconst (-1), 1, 0, 0, 0, -1, []),
  (30, .if_icmp .eq 19, 3, 0, 0, 0, 0, []),
  (33, .iload_n 3, 1, 0, 0, 0, 0, []),
  (34, .aload_n 0, 1, 0, 0, 0, 0, []),
  (35, .getfield 19, 3, 3, 23, 190, 0, []),
  (38, .bipush 9, 2, 0, 0, 0, 9, []),
  (40, .iconst 0, 1, 0, 0, 0, 0, []),
  (41, .invokevirtual 70, 3, 15, 13, 238, 0, []),
  (44, .if_icmp .eq 5, 3, 0, 0, 0, 0, []),
  (47, .iconst 0, 1, 0, 0, 0, 0, []),
  (48, .ireturn, 1, 1, 0, 0, 0, []),
  (49, .iinc 2 1, 3, 0, 0, 0, 1, []),
  (52, .goto (-50), 3, 0, 0, 0, 0, []),
  (55, .iconst 1, 1, 0, 0, 0, 1, []),
  (56, .ireturn, 1, 1, 0, 0, 0, [])]
def rm_X4_comesOutAs : rv_M := (yX4_comesOutAs, cX4_comesOutAs, 4, some .boolean, 3, 5, 109, rc_X4_comesOutAs)
def rc_X5_isIn : rv_C := [
  (0, .lload_n 0, 1, 0, 0, 0, 0, []),
  (1, .lload_n 2, 1, 0, 0, 0, 0, []),
  (2, .lcmp, 1, 0, 0, 0, 0, []),
  (3, .ifCond .lt 14, 3, 0, 0, 0, 0, []),
  (6, .lload_n 0, 1, 0, 0, 0, 0, []),
  (7, .lload 4, 2, 0, 0, 0, 0, []),
  (9, .lcmp, 1, 0, 0, 0, 0, []),
  (10, .ifCond .gt 7, 3, 0, 0, 0, 0, []),
  (13, .iconst 1, 1, 0, 0, 0, 1, []),
  (14, .goto 4, 3, 0, 0, 0, 0, []),
  (17, .iconst 0, 1, 0, 0, 0, 0, []),
  (18, .ireturn, 1, 1, 0, 0, 0, [])]
def rm_X5_isIn : rv_M := (yX5_isIn, cX5_isIn, 6, some .boolean, 99, 0, 0, rc_X5_isIn)
def rc_X5_finds : rv_C := [
  (0, .aload_n 0, 1, 0, 0, 0, 0, []),
  (1, .getfield 22, 3, 4, 53, 744, 0, []),
  (4, .iconst 0, 1, 0, 0, 0, 0, []),
  (5, .dup2, 1, 0, 0, 0, 0, []),
  (6, .iaload, 1, 0, 0, 0, 0, []),
  (7, .iconst 1, 1, 0, 0, 0, 1, []),
  (8, .iadd, 1, 0, 0, 0, 0, []),
  (9, .iastore, 1, 0, 0, 0, 0, []),
  (10, .aload_n 0, 1, 0, 0, 0, 0, []),
  (11, .getfield 22, 3, 4, 53, 744, 0, []),
  (14, .ldc 37, 2, 0, 0, 803, -1000001, []),
  (16, .iload_n 1, 1, 0, 0, 0, 0, []),
  (17, .isub, 1, 0, 0, 0, 0, []),
  (18, .iconst 1, 1, 0, 0, 0, 1, []),
  (19, .iadd, 1, 0, 0, 0, 0, []),
  (20, .dup2, 1, 0, 0, 0, 0, []),
  (21, .iaload, 1, 0, 0, 0, 0, []),
  (22, .iconst 1, 1, 0, 0, 0, 1, []),
  (23, .iadd, 1, 0, 0, 0, 0, []),
  (24, .iastore, 1, 0, 0, 0, 0, []),
  (25, .iload_n 1, 1, 0, 0, 0, 0, []),
  (26, .ireturn, 1, 0, 0, 0, 0, [])]
def rm_X5_finds : rv_M := (yX5_finds, cX5_finds, 2, some .int, 4, 0, 0, rc_X5_finds)
def rc_X5_becomes : rv_C := [
  (0, .aload_n 0, 1, 0, 0, 0, 0, []),
  (1, .getfield 7, 3, 4, 3, 739, 0, []),
  (4, .iload_n 1, 1, 0, 0, 0, 0, []),
  (5, .iaload, 1, 0, 0, 0, 0, []),
  (6, .istore_n 3, 1, 0, 0, 0, 0, []),
  (7, .aload_n 0, 1, 0, 0, 0, 0, []),
  (8, .getfield 7, 3, 4, 3, 739, 0, []),
  (11, .iload_n 1, 1, 0, 0, 0, 0, []),
  (12, .iload_n 2, 1, 0, 0, 0, 0, []),
  (13, .iastore, 1, 0, 0, 0, 0, []),
  (14, .iload_n 3, 1, 0, 0, 0, 0, []),
  (15, .ireturn, 1, 0, 0, 0, 0, [])]
def rm_X5_becomes : rv_M := (yX5_becomes, cX5_becomes, 4, some .int, 4, 0, 0, rc_X5_becomes)
def rc_X5_copyRow : rv_C := [
  (0, .iconst 0, 1, 0, 0, 0, 0, []),
  (1, .istore_n 2, 1, 0, 0, 0, 0, []),
  (2, .iload_n 2, 1, 0, 0, 0, 0, []),
  (3, .bipush 96, 2, 0, 0, 0, 96, []),
  (5, .if_icmp .ge 15, 3, 0, 0, 0, 0, []),
  (8, .aload_n 1, 1, 0, 0, 0, 0, []),
  (9, .iload_n 2, 1, 0, 0, 0, 0, []),
  (10, .aload_n 0, 1, 0, 0, 0, 0, []),
  (11, .iload_n 2, 1, 0, 0, 0, 0, []),
  (12, .iaload, 1, 0, 0, 0, 0, []),
  (13, .iastore, 1, 0, 0, 0, 0, []),
  (14, .iinc 2 1, 3, 0, 0, 0, 1, []),
  (17, .goto (-15), 3, 0, 0, 0, 0, []),
  (20, .return_, 1, 0, 0, 0, 0, [])]
def rm_X5_copyRow : rv_M := (yX5_copyRow, cX5_copyRow, 3, none, 99, 0, 0, rc_X5_copyRow)
def rc_X5_isTub : rv_C := [
  (0, .iload_n 0, 1, 0, 0, 0, 0, []),
  (1, .ifCond .lt 13, 3, 0, 0, 0, 0, []),
  (4, .iload_n 0, 1, 0, 0, 0, 0, []),
  (5, .bipush 10, 2, 0, 0, 0, 10, []),
  (7, .if_icmp .ge 7, 3, 0, 0, 0, 0, []),
  (10, .iconst 1, 1, 0, 0, 0, 1, []),
  (11, .goto 4, 3, 0, 0, 0, 0, []),
  (14, .iconst 0, 1, 0, 0, 0, 0, []),
  (15, .ireturn, 1, 1, 0, 0, 0, [])]
def rm_X5_isTub : rv_M := (yX5_isTub, cX5_isTub, 1, some .boolean, 99, 0, 0, rc_X5_isTub)
def rc_X5_isScent : rv_C := [
  (0, .iload_n 0, 1, 0, 0, 0, 0, []),
  (1, .ifCond .lt 12, 3, 0, 0, 0, 0, []),
  (4, .iload_n 0, 1, 0, 0, 0, 0, []),
  (5, .iconst 4, 1, 0, 0, 0, 4, []),
  (6, .if_icmp .ge 7, 3, 0, 0, 0, 0, []),
  (9, .iconst 1, 1, 0, 0, 0, 1, []),
  (10, .goto 4, 3, 0, 0, 0, 0, []),
  (13, .iconst 0, 1, 0, 0, 0, 0, []),
  (14, .ireturn, 1, 1, 0, 0, 0, [])]
def rm_X5_isScent : rv_M := (yX5_isScent, cX5_isScent, 1, some .boolean, 99, 0, 0, rc_X5_isScent)
def rc_X5_isBather : rv_C := [
  (0, .iload_n 1, 1, 0, 0, 0, 0, []),
  (1, .ifCond .lt 17, 3, 0, 0, 0, 0, []),
  (4, .iload_n 1, 1, 0, 0, 0, 0, []),
  (5, .aload_n 0, 1, 0, 0, 0, 0, []),
  (6, .getfield 7, 3, 4, 3, 739, 0, []),
  (9, .iconst 0, 1, 0, 0, 0, 0, []),
  (10, .iaload, 1, 0, 0, 0, 0, []),
  (11, .if_icmp .ge 7, 3, 0, 0, 0, 0, []),
  (14, .iconst 1, 1, 0, 0, 0, 1, []),
  (15, .goto 4, 3, 0, 0, 0, 0, []),
  (18, .iconst 0, 1, 0, 0, 0, 0, []),
  (19, .ireturn, 1, 1, 0, 0, 0, [])]
def rm_X5_isBather : rv_M := (yX5_isBather, cX5_isBather, 2, some .boolean, 4, 0, 0, rc_X5_isBather)
def rc_X5_its : rv_C := [
  (0, .aload_n 0, 1, 0, 0, 0, 0, []),
  (1, .getfield 7, 3, 4, 3, 739, 0, []),
  (4, .bipush 54, 2, 0, 0, 0, 54, []),
  (6, .iconst 4, 1, 0, 0, 0, 4, []),
  (7, .iload_n 1, 1, 0, 0, 0, 0, []),
  (8, .imul, 1, 0, 0, 0, 0, []),
  (9, .iadd, 1, 0, 0, 0, 0, []),
  (10, .iload_n 2, 1, 0, 0, 0, 0, []),
  (11, .iadd, 1, 0, 0, 0, 0, []),
  (12, .iaload, 1, 0, 0, 0, 0, []),
  (13, .ireturn, 1, 0, 0, 0, 0, [])]
def rm_X5_its : rv_M := (yX5_its, cX5_its, 3, some .int, 4, 0, 0, rc_X5_its)
def rc_X5_orNone : rv_C := [
  (0, .iload_n 1, 1, 0, 0, 0, 0, []),
  (1, .ifCond .ge 12, 3, 0, 0, 0, 0, []),
  (4, .aload_n 0, 1, 0, 0, 0, 0, []),
  (5, .ldc 38, 2, 0, 0, 969, -1000004, []),
  (7, .invokevirtual 39, 3, 108, 9, 804, 0, []),
  (10, .goto 4, 3, 0, 0, 0, 0, []),
  (13, .iload_n 1, 1, 0, 0, 0, 0, []),
  (14, .ireturn, 1, 0, 0, 0, 0, [])]
def rm_X5_orNone : rv_M := (yX5_orNone, cX5_orNone, 2, some .int, 4, 1, 21, rc_X5_orNone)
def rc_X5_many : rv_C := [
  (0, .iconst 0, 1, 0, 0, 0, 0, []),
  (1, .istore_n 1, 1, 0, 0, 0, 0, []),
  (2, .iload_n 0, 1, 0, 0, 0, 0, []),
  (3, .istore_n 2, 1, 0, 0, 0, 0, []),
  (4, .iload_n 2, 1, 0, 0, 0, 0, [0]),
  (5, .ifCond .eq 15, 3, 0, 0, 0, 0, []),
  (8, .iinc 1 1, 3, 0, 0, 0, 1, []),
  (11, .iload_n 2, 1, 0, 0, 0, 0, []),
  (12, .iload_n 2, 1, 0, 0, 0, 0, []),
  (13, .iconst 1, 1, 0, 0, 0, 1, []),
  (14, .isub, 1, 0, 0, 0, 0, []),
  (15, .iand, 1, 0, 0, 0, 0, []),
  (16, .istore_n 2, 1, 0, 0, 0, 0, []),
  (17, .goto (-13), 3, 0, 0, 0, 0, []),
  (20, .iload_n 1, 1, 0, 0, 0, 0, []),
  (21, .ireturn, 1, 0, 0, 0, 0, [])]
def rm_X5_many : rv_M := (yX5_many, cX5_many, 3, some .int, 99, 0, 0, rc_X5_many)
def rc_X5_warm : rv_C := [
  (0, .iload_n 1, 1, 0, 0, 0, 0, []),
  (1, .invokestatic 43, 3, 111, 5, 792, 0, []),
  (4, .ifCond .eq 26, 3, 0, 0, 0, 0, []),
  (7, .iload_n 2, 1, 0, 0, 0, 0, []),
  (8, .i2l, 1, 0, 0, 0, 0, []),
  (9, .lconst 0, 1, 0, 0, 0, 0, []),
  (10, .ldc2_w 47, 3, 0, 0, 795, 99, []),
  (13, .invokestatic 49, 3, 107, 13, 796, 0, []),
  (16, .ifCond .eq 14, 3, 0, 0, 0, 0, []),
  (19, .aload_n 0, 1, 0, 0, 0, 0, []),
  (20, .iconst 4, 1, 0, 0, 0, 4, []),
  (21, .iload_n 1, 1, 0, 0, 0, 0, []),
  (22, .iadd, 1, 0, 0, 0, 0, []),
  (23, .iload_n 2, 1, 0, 0, 0, 0, []),
  (24, .invokevirtual 53, 3, 109, 13, 799, 0, []),
  (27, .goto 9, 3, 0, 0, 0, 0, []),
  (30, .aload_n 0, 1, 0, 0, 0, 0, []),
  (31, .ldc 37, 2, 0, 0, 803, -1000001, []),
  (33, .invokevirtual 39, 3, 108, 9, 804, 0, []),
  (36, .ireturn, 1, 0, 0, 0, 0, [])]
def rm_X5_warm : rv_M := (yX5_warm, cX5_warm, 3, some .int, 4, 1, 25, rc_X5_warm)
def rc_X5_placeOf : rv_C := [
  (0, .bipush 14, 2, 0, 0, 0, 14, []),
  (2, .iconst 4, 1, 0, 0, 0, 4, []),
  (3, .iload_n 0, 1, 0, 0, 0, 0, []),
  (4, .imul, 1, 0, 0, 0, 0, []),
  (5, .iadd, 1, 0, 0, 0, 0, []),
  (6, .iload_n 1, 1, 0, 0, 0, 0, []),
  (7, .iadd, 1, 0, 0, 0, 0, []),
  (8, .ireturn, 1, 0, 0, 0, 0, [])]
def rm_X5_placeOf : rv_M := (yX5_placeOf, cX5_placeOf, 2, some .int, 99, 0, 0, rc_X5_placeOf)
def rc_X5_scent : rv_C := [
  (0, .iload_n 1, 1, 0, 0, 0, 0, []),
  (1, .invokestatic 43, 3, 111, 5, 792, 0, []),
  (4, .ifCond .eq 35, 3, 0, 0, 0, 0, []),
  (7, .iload_n 2, 1, 0, 0, 0, 0, []),
  (8, .invokestatic 57, 3, 112, 5, 812, 0, []),
  (11, .ifCond .eq 28, 3, 0, 0, 0, 0, []),
  (14, .iload_n 3, 1, 0, 0, 0, 0, []),
  (15, .i2l, 1, 0, 0, 0, 0, []),
  (16, .lconst 0, 1, 0, 0, 0, 0, []),
  (17, .ldc2_w 60, 3, 0, 0, 815, 9999, []),
  (20, .invokestatic 49, 3, 107, 13, 796, 0, []),
  (23, .ifCond .eq 16, 3, 0, 0, 0, 0, []),
  (26, .aload_n 0, 1, 0, 0, 0, 0, []),
  (27, .iload_n 1, 1, 0, 0, 0, 0, []),
  (28, .iload_n 2, 1, 0, 0, 0, 0, []),
  (29, .invokestatic 62, 3, 118, 9, 816, 0, []),
  (32, .iload_n 3, 1, 0, 0, 0, 0, []),
  (33, .invokevirtual 53, 3, 109, 13, 799, 0, []),
  (36, .goto 9, 3, 0, 0, 0, 0, []),
  (39, .aload_n 0, 1, 0, 0, 0, 0, []),
  (40, .ldc 37, 2, 0, 0, 803, -1000001, []),
  (42, .invokevirtual 39, 3, 108, 9, 804, 0, []),
  (45, .ireturn, 1, 0, 0, 0, 0, [])]
def rm_X5_scent : rv_M := (yX5_scent, cX5_scent, 4, some .int, 4, 1, 25, rc_X5_scent)
def rc_X5_allIn : rv_C := [
  (0, .iconst 0, 1, 0, 0, 0, 0, []),
  (1, .istore_n 2, 1, 0, 0, 0, 0, []),
  (2, .iconst 0, 1, 0, 0, 0, 0, []),
  (3, .istore_n 3, 1, 0, 0, 0, 0, []),
  (4, .iload_n 3, 1, 0, 0, 0, 0, []),
  (5, .iconst 4, 1, 0, 0, 0, 4, []),
  (6, .if_icmp .ge 22, 3, 0, 0, 0, 0, []),
  (9, .iload_n 2, 1, 0, 0, 0, 0, []),
  (10, .aload_n 0, 1, 0, 0, 0, 0, []),
  (11, .getfield 7, 3, 4, 3, 739, 0, []),
  (14, .iload_n 1, 1, 0, 0, 0, 0, []),
  (15, .iload_n 3, 1, 0, 0, 0, 0, []),
  (16, .invokestatic 62, 3, 118, 9, 816, 0, []),
  (19, .iaload, 1, 0, 0, 0, 0, []),
  (20, .iadd, 1, 0, 0, 0, 0, []),
  (21, .istore_n 2, 1, 0, 0, 0, 0, []),
  (22, .iinc 3 1, 3, 0, 0, 0, 1, []),
  (25, .goto (-21), 3, 0, 0, 0, 0, []),
  (28, .iload_n 2, 1, 0, 0, 0, 0, []),
  (29, .ireturn, 1, 0, 0, 0, 0, [])]
def rm_X5_allIn : rv_M := (yX5_allIn, cX5_allIn, 4, some .int, 4, 1, 21, rc_X5_allIn)
def rc_X5_there : rv_C := [
  (0, .iconst 0, 1, 0, 0, 0, 0, []),
  (1, .istore_n 2, 1, 0, 0, 0, 0, []),
  (2, .iconst 0, 1, 0, 0, 0, 0, []),
  (3, .istore_n 3, 1, 0, 0, 0, 0, []),
  (4, .iload_n 3, 1, 0, 0, 0, 0, []),
  (5, .aload_n 0, 1, 0, 0, 0, 0, []),
  (6, .getfield 7, 3, 4, 3, 739, 0, []),
  (9, .iconst 0, 1, 0, 0, 0, 0, []),
  (10, .iaload, 1, 0, 0, 0, 0, []),
  (11, .if_icmp .ge 29, 3, 0, 0, 0, 0, []),
  (14, .iload_n 2, 1, 0, 0, 0, 0, []),
  (15, .aload_n 0, 1, 0, 0, 0, 0, []),
  (16, .iload_n 3, 1, 0, 0, 0, 0, []),
  (17, .iconst 1, 1, 0, 0, 0, 1, []),
  (18, .invokevirtual 65, 3, 114, 13, 828, 0, []),
  (21, .iload_n 1, 1, 0, 0, 0, 0, []),
  (22, .if_icmp .ne 9, 3, 0, 0, 0, 0, []),
  (25, .iconst 1, 1, 0, 0, 0, 1, []),
  (26, .iload_n 3, 1, 0, 0, 0, 0, []),
  (27, .ishl, 1, 0, 0, 0, 0, []),
  (28, .goto 4, 3, 0, 0, 0, 0, []),
  (31, .iconst 0, 1, 0, 0, 0, 0, []),
  (32, .ior, 1, 0, 0, 0, 0, []),
  (33, .istore_n 2, 1, 0, 0, 0, 0, []),
  (34, .iinc 3 1, 3, 0, 0, 0, 1, []),
  (37, .goto (-33), 3, 0, 0, 0, 0, []),
  (40, .iload_n 2, 1, 0, 0, 0, 0, []),
  (41, .ireturn, 1, 0, 0, 0, 0, [])]
def rm_X5_there : rv_M := (yX5_there, cX5_there, 4, some .int, 4, 1, 22, rc_X5_there)
def rc_X5_tub : rv_C := [
  (0, .iload_n 1, 1, 0, 0, 0, 0, []),
  (1, .invokestatic 43, 3, 111, 5, 792, 0, []),
  (4, .ifCond .eq 15, 3, 0, 0, 0, 0, []),
  (7, .iload_n 2, 1, 0, 0, 0, 0, []),
  (8, .i2l, 1, 0, 0, 0, 0, []),
  (9, .lconst 0, 1, 0, 0, 0, 0, []),
  (10, .ldc2_w 68, 3, 0, 0, 823, 6, []),
  (13, .invokestatic 49, 3, 107, 13, 796, 0, []),
  (16, .ifCond .ne 10, 3, 0, 0, 0, 0, []),
  (19, .aload_n 0, 1, 0, 0, 0, 0, []),
  (20, .ldc 37, 2, 0, 0, 803, -1000001, []),
  (22, .invokevirtual 39, 3, 108, 9, 804, 0, []),
  (25, .ireturn, 1, 0, 0, 0, 0, []),
  (26, .iload_n 2, 1, 0, 0, 0, 0, []),
  (27, .iconst 4, 1, 0, 0, 0, 4, []),
  (28, .if_icmp .ge 16, 3, 0, 0, 0, 0, []),
  (31, .aload_n 0, 1, 0, 0, 0, 0, []),
  (32, .getfield 7, 3, 4, 3, 739, 0, []),
  (35, .iload_n 1, 1, 0, 0, 0, 0, []),
  (36, .iload_n 2, 1, 0, 0, 0, 0, []),
  (37, .invokestatic 62, 3, 118, 9, 816, 0, []),
  (40, .iaload, 1, 0, 0, 0, 0, []),
  (41, .goto 37, 3, 0, 0, 0, 0, []),
  (44, .iload_n 2, 1, 0, 0, 0, 0, []),
  (45, .iconst 4, 1, 0, 0, 0, 4, []),
  (46, .if_icmp .ne 14, 3, 0, 0, 0, 0, []),
  (49, .aload_n 0, 1, 0, 0, 0, 0, []),
  (50, .getfield 7, 3, 4, 3, 739, 0, []),
  (53, .iconst 4, 1, 0, 0, 0, 4, []),
  (54, .iload_n 1, 1, 0, 0, 0, 0, []),
  (55, .iadd, 1, 0, 0, 0, 0, []),
  (56, .iaload, 1, 0, 0, 0, 0, []),
  (57, .goto 21, 3, 0, 0, 0, 0, []),
  (60, .iload_n 2, 1, 0, 0, 0, 0, []),
  (61, .iconst 5, 1, 0, 0, 0, 5, []),
  (62, .if_icmp .ne 11, 3, 0, 0, 0, 0, []),
  (65, .aload_n 0, 1, 0, 0, 0, 0, []),
  (66, .iload_n 1, 1, 0, 0, 0, 0, []),
  (67, .invokevirtual 70, 3, 121, 9, 824, 0, []),
  (70, .goto 8, 3, 0, 0, 0, 0, []),
  (73, .aload_n 0, 1, 0, 0, 0, 0, []),
  (74, .iload_n 1, 1, 0, 0, 0, 0, []),
  (75, .invokevirtual 73, 3, 120, 9, 832, 0, []),
  (78, .ireturn, 1, 0, 0, 0, 0, [])]
def rm_X5_tub : rv_M := (yX5_tub, cX5_tub, 3, some .int, 4, 2, 45, rc_X5_tub)
def rc_X5_fresh : rv_C := [
  (0, .iload_n 1, 1, 0, 0, 0, 0, []),
  (1, .i2l, 1, 0, 0, 0, 0, []),
  (2, .lconst 0, 1, 0, 0, 0, 0, []),
  (3, .ldc2_w 47, 3, 0, 0, 795, 99, []),
  (6, .invokestatic 49, 3, 107, 13, 796, 0, []),
  (9, .ifCond .eq 12, 3, 0, 0, 0, 0, []),
  (12, .aload_n 0, 1, 0, 0, 0, 0, []),
  (13, .iconst 2, 1, 0, 0, 0, 2, []),
  (14, .iload_n 1, 1, 0, 0, 0, 0, []),
  (15, .invokevirtual 53, 3, 109, 13, 799, 0, []),
  (18, .goto 9, 3, 0, 0, 0, 0, []),
  (21, .aload_n 0, 1, 0, 0, 0, 0, []),
  (22, .ldc 37, 2, 0, 0, 803, -1000001, []),
  (24, .invokevirtual 39, 3, 108, 9, 804, 0, []),
  (27, .ireturn, 1, 0, 0, 0, 0, [])]
def rm_X5_fresh : rv_M := (yX5_fresh, cX5_fresh, 2, some .int, 4, 1, 25, rc_X5_fresh)
def rc_X5_pulls : rv_C := [
  (0, .aload_n 0, 1, 0, 0, 0, 0, []),
  (1, .iload_n 1, 1, 0, 0, 0, 0, []),
  (2, .invokevirtual 73, 3, 120, 9, 832, 0, []),
  (5, .istore_n 2, 1, 0, 0, 0, 0, []),
  (6, .aload_n 0, 1, 0, 0, 0, 0, []),
  (7, .getfield 7, 3, 4, 3, 739, 0, []),
  (10, .iconst 4, 1, 0, 0, 0, 4, []),
  (11, .iload_n 1, 1, 0, 0, 0, 0, []),
  (12, .iadd, 1, 0, 0, 0, 0, []),
  (13, .iconst 0, 1, 0, 0, 0, 0, []),
  (14, .iastore, 1, 0, 0, 0, 0, []),
  (15, .iconst 0, 1, 0, 0, 0, 0, []),
  (16, .istore_n 3, 1, 0, 0, 0, 0, []),
  (17, .iload_n 3, 1, 0, 0, 0, 0, []),
  (18, .iconst 4, 1, 0, 0, 0, 4, []),
  (19, .if_icmp .ge 20, 3, 0, 0, 0, 0, []),
  (22, .aload_n 0, 1, 0, 0, 0, 0, []),
  (23, .getfield 7, 3, 4, 3, 739, 0, []),
  (26, .iload_n 1, 1, 0, 0, 0, 0, []),
  (27, .iload_n 3, 1, 0, 0, 0, 0, []),
  (28, .invokestatic 62, 3, 118, 9, 816, 0, []),
  (31, .iconst 0, 1, 0, 0, 0, 0, []),
  (32, .iastore, 1, 0, 0, 0, 0, []),
  (33, .iinc 3 1, 3, 0, 0, 0, 1, []),
  (36, .goto (-19), 3, 0, 0, 0, 0, []),
  (39, .iload_n 2, 1, 0, 0, 0, 0, []),
  (40, .ireturn, 1, 0, 0, 0, 0, [])]
def rm_X5_pulls : rv_M := (yX5_pulls, cX5_pulls, 4, some .int, 4, 2, 44, rc_X5_pulls)
def rc_X5_plug : rv_C := [
  (0, .iload_n 1, 1, 0, 0, 0, 0, []),
  (1, .invokestatic 43, 3, 111, 5, 792, 0, []),
  (4, .ifCond .eq 11, 3, 0, 0, 0, 0, []),
  (7, .aload_n 0, 1, 0, 0, 0, 0, []),
  (8, .iload_n 1, 1, 0, 0, 0, 0, []),
  (9, .invokevirtual 76, 3, 124, 9, 844, 0, []),
  (12, .goto 9, 3, 0, 0, 0, 0, []),
  (15, .aload_n 0, 1, 0, 0, 0, 0, []),
  (16, .ldc 37, 2, 0, 0, 803, -1000001, []),
  (18, .invokevirtual 39, 3, 108, 9, 804, 0, []),
  (21, .ireturn, 1, 0, 0, 0, 0, [])]
def rm_X5_plug : rv_M := (yX5_plug, cX5_plug, 2, some .int, 4, 3, 67, rc_X5_plug)
def rc_X5_comes : rv_C := [
  (0, .bipush 54, 2, 0, 0, 0, 54, []),
  (2, .iconst 4, 1, 0, 0, 0, 4, []),
  (3, .aload_n 0, 1, 0, 0, 0, 0, []),
  (4, .getfield 7, 3, 4, 3, 739, 0, []),
  (7, .iconst 0, 1, 0, 0, 0, 0, []),
  (8, .iaload, 1, 0, 0, 0, 0, []),
  (9, .imul, 1, 0, 0, 0, 0, []),
  (10, .iadd, 1, 0, 0, 0, 0, []),
  (11, .istore 5, 2, 0, 0, 0, 0, []),
  (13, .aload_n 0, 1, 0, 0, 0, 0, []),
  (14, .getfield 7, 3, 4, 3, 739, 0, []),
  (17, .iload 5, 2, 0, 0, 0, 0, []),
  (19, .iload_n 1, 1, 0, 0, 0, 0, []),
  (20, .iastore, 1, 0, 0, 0, 0, []),
  (21, .aload_n 0, 1, 0, 0, 0, 0, []),
  (22, .getfield 7, 3, 4, 3, 739, 0, []),
  (25, .iload 5, 2, 0, 0, 0, 0, []),
  (27, .iconst 1, 1, 0, 0, 0, 1, []),
  (28, .iadd, 1, 0, 0, 0, 0, []),
  (29, .iload_n 2, 1, 0, 0, 0, 0, []),
  (30, .iastore, 1, 0, 0, 0, 0, []),
  (31, .aload_n 0, 1, 0, 0, 0, 0, []),
  (32, .getfield 7, 3, 4, 3, 739, 0, []),
  (35, .iload 5, 2, 0, 0, 0, 0, []),
  (37, .iconst 2, 1, 0, 0, 0, 2, []),
  (38, .iadd, 1, 0, 0, 0, 0, []),
  (39, .iload_n 3, 1, 0, 0, 0, 0, []),
  (40, .iastore, 1, 0, 0, 0, 0, []),
  (41, .aload_n 0, 1, 0, 0, 0, 0, []),
  (42, .getfield 7, 3, 4, 3, 739, 0, []),
  (45, .iload 5, 2, 0, 0, 0, 0, []),
  (47, .iconst 3, 1, 0, 0, 0, 3, []),
  (48, .iadd, 1, 0, 0, 0, 0, []),
  (49, .iload 4, 2, 0, 0, 0, 0, []),
  (51, .iastore, 1, 0, 0, 0, 0, []),
  (52, .aload_n 0, 1, 0, 0, 0, 0, []),
  (53, .getfield 7, 3, 4, 3, 739, 0, []),
  (56, .iconst 0, 1, 0, 0, 0, 0, []),
  (57, .dup2, 1, 0, 0, 0, 0, []),
  (58, .iaload, 1, 0, 0, 0, 0, []),
  (59, .iconst 1, 1, 0, 0, 0, 1, []),
  (60, .iadd, 1, 0, 0, 0, 0, []),
  (61, .iastore, 1, 0, 0, 0, 0, []),
  (62, .return_, 1, 0, 0, 0, 0, [])]
def rm_X5_comes : rv_M := (yX5_comes, cX5_comes, 6, none, 4, 0, 0, rc_X5_comes)
def rc_X5_bather : rv_C := [
  (0, .iload_n 1, 1, 0, 0, 0, 0, []),
  (1, .i2l, 1, 0, 0, 0, 0, []),
  (2, .lconst 0, 1, 0, 0, 0, 0, []),
  (3, .ldc2_w 68, 3, 0, 0, 823, 6, []),
  (6, .invokestatic 49, 3, 107, 13, 796, 0, []),
  (9, .ifCond .eq 10, 3, 0, 0, 0, 0, []),
  (12, .iload_n 2, 1, 0, 0, 0, 0, []),
  (13, .invokestatic 43, 3, 111, 5, 792, 0, []),
  (16, .ifCond .ne 10, 3, 0, 0, 0, 0, []),
  (19, .aload_n 0, 1, 0, 0, 0, 0, []),
  (20, .ldc 37, 2, 0, 0, 803, -1000001, []),
  (22, .invokevirtual 39, 3, 108, 9, 804, 0, []),
  (25, .ireturn, 1, 0, 0, 0, 0, []),
  (26, .aload_n 0, 1, 0, 0, 0, 0, []),
  (27, .getfield 7, 3, 4, 3, 739, 0, []),
  (30, .iconst 0, 1, 0, 0, 0, 0, []),
  (31, .iaload, 1, 0, 0, 0, 0, []),
  (32, .bipush 8, 2, 0, 0, 0, 8, []),
  (34, .if_icmp .ne 10, 3, 0, 0, 0, 0, []),
  (37, .aload_n 0, 1, 0, 0, 0, 0, []),
  (38, .ldc 79, 2, 0, 0, 852, -1000002, []),
  (40, .invokevirtual 39, 3, 108, 9, 804, 0, []),
  (43, .ireturn, 1, 0, 0, 0, 0, []),
  (44, .aload_n 0, 1, 0, 0, 0, 0, []),
  (45, .iload_n 1, 1, 0, 0, 0, 0, []),
  (46, .iload_n 2, 1, 0, 0, 0, 0, []),
  (47, .iconst 0, 1, 0, 0, 0, 0, []),
  (48, .iconst 0, 1, 0, 0, 0, 0, []),
  (49, .invokevirtual 80, 3, 126, 20, 853, 0, []),
  (52, .aload_n 0, 1, 0, 0, 0, 0, []),
  (53, .getfield 7, 3, 4, 3, 739, 0, []),
  (56, .iconst 0, 1, 0, 0, 0, 0, []),
  (57, .iaload, 1, 0, 0, 0, 0, []),
  (58, .iconst 1, 1, 0, 0, 0, 1, []),
  (59, .isub, 1, 0, 0, 0, 0, []),
  (60, .ireturn, 1, 0, 0, 0, 0, [])]
def rm_X5_bather : rv_M := (yX5_bather, cX5_bather, 3, some .int, 4, 1, 25, rc_X5_bather)
def rc_X5_adds : rv_C := [
  (0, .aload_n 0, 1, 0, 0, 0, 0, []),
  (1, .iload_n 1, 1, 0, 0, 0, 0, []),
  (2, .iconst 0, 1, 0, 0, 0, 0, []),
  (3, .invokevirtual 65, 3, 114, 13, 828, 0, []),
  (6, .tableswitch 109 1 6 #[38, 42, 45, 48, 61, 91], 38, 0, 0, 0, 0, []),
  (44, .sipush 128, 3, 0, 0, 0, 128, []),
  (47, .ireturn, 1, 0, 0, 0, 0, []),
  (48, .bipush 32, 2, 0, 0, 0, 32, []),
  (50, .ireturn, 1, 0, 0, 0, 0, []),
  (51, .bipush 8, 2, 0, 0, 0, 8, []),
  (53, .ireturn, 1, 0, 0, 0, 0, []),
  (54, .bipush 8, 2, 0, 0, 0, 8, []),
  (56, .aload_n 0, 1, 0, 0, 0, 0, []),
  (57, .iload_n 1, 1, 0, 0, 0, 0, []),
  (58, .iconst 3, 1, 0, 0, 0, 3, []),
  (59, .invokevirtual 65, 3, 114, 13, 828, 0, []),
  (62, .invokestatic 84, 3, 116, 5, 870, 0, []),
  (65, .iadd, 1, 0, 0, 0, 0, []),
  (66, .ireturn, 1, 0, 0, 0, 0, []),
  (67, .aload_n 0, 1, 0, 0, 0, 0, []),
  (68, .getfield 7, 3, 4, 3, 739, 0, []),
  (71, .aload_n 0, 1, 0, 0, 0, 0, []),
  (72, .iload_n 1, 1, 0, 0, 0, 0, []),
  (73, .iconst 1, 1, 0, 0, 0, 1, []),
  (74, .invokevirtual 65, 3, 114, 13, 828, 0, []),
  (77, .aload_n 0, 1, 0, 0, 0, 0, []),
  (78, .iload_n 1, 1, 0, 0, 0, 0, []),
  (79, .iconst 2, 1, 0, 0, 0, 2, []),
  (80, .invokevirtual 65, 3, 114, 13, 828, 0, []),
  (83, .invokestatic 62, 3, 118, 9, 816, 0, []),
  (86, .iaload, 1, 0, 0, 0, 0, []),
  (87, .ifCond .ne 8, 3, 0, 0, 0, 0, []),
  (90, .bipush 64, 2, 0, 0, 0, 64, []),
  (92, .goto 4, 3, 0, 0, 0, 0, []),
  (95, .iconst 0, 1, 0, 0, 0, 0, []),
  (96, .ireturn, 1, 0, 0, 0, 0, []),
  (97, .sipush 128, 3, 0, 0, 0, 128, []),
  (100, .aload_n 0, 1, 0, 0, 0, 0, []),
  (101, .getfield 7, 3, 4, 3, 739, 0, []),
  (104, .iconst 4, 1, 0, 0, 0, 4, []),
  (105, .aload_n 0, 1, 0, 0, 0, 0, []),
  (106, .iload_n 1, 1, 0, 0, 0, 0, []),
  (107, .iconst 1, 1, 0, 0, 0, 1, []),
  (108, .invokevirtual 65, 3, 114, 13, 828, 0, []),
  (111, .iadd, 1, 0, 0, 0, 0, []),
  (112, .iaload, 1, 0, 0, 0, 0, []),
  (113, .iadd, 1, 0, 0, 0, 0, []),
  (114, .ireturn, 1, 0, 0, 0, 0, []),
  (115, .bipush 64, 2, 0, 0, 0, 64, []),
  (117, .ireturn, 1, 0, 0, 0, 0, [])]
def rm_X5_adds : rv_M := (yX5_adds, cX5_adds, 2, some .int, 4, 1, 22, rc_X5_adds)
def rc_X5_cools : rv_C := [
  (0, .aload_n 0, 1, 0, 0, 0, 0, []),
  (1, .iload_n 1, 1, 0, 0, 0, 0, []),
  (2, .iconst 0, 1, 0, 0, 0, 0, []),
  (3, .invokevirtual 65, 3, 114, 13, 828, 0, []),
  (6, .tableswitch 49 1 6 #[38, 41, 41, 41, 43, 46], 38, 0, 0, 0, 0, []),
  (44, .bipush 8, 2, 0, 0, 0, 8, []),
  (46, .ireturn, 1, 0, 0, 0, 0, []),
  (47, .iconst 3, 1, 0, 0, 0, 3, []),
  (48, .ireturn, 1, 0, 0, 0, 0, []),
  (49, .bipush 10, 2, 0, 0, 0, 10, []),
  (51, .ireturn, 1, 0, 0, 0, 0, []),
  (52, .bipush 16, 2, 0, 0, 0, 16, []),
  (54, .ireturn, 1, 0, 0, 0, 0, []),
  (55, .iconst 5, 1, 0, 0, 0, 5, []),
  (56, .ireturn, 1, 0, 0, 0, 0, [])]
def rm_X5_cools : rv_M := (yX5_cools, cX5_cools, 2, some .int, 4, 1, 22, rc_X5_cools)
def rc_X5_nose : rv_C := [
  (0, .aload_n 0, 1, 0, 0, 0, 0, []),
  (1, .iload_n 1, 1, 0, 0, 0, 0, []),
  (2, .iconst 0, 1, 0, 0, 0, 0, []),
  (3, .invokevirtual 65, 3, 114, 13, 828, 0, []),
  (6, .tableswitch 51 2 6 #[34, 37, 40, 43, 47], 34, 0, 0, 0, 0, []),
  (40, .bipush 50, 2, 0, 0, 0, 50, []),
  (42, .ireturn, 1, 0, 0, 0, 0, []),
  (43, .bipush 30, 2, 0, 0, 0, 30, []),
  (45, .ireturn, 1, 0, 0, 0, 0, []),
  (46, .bipush 10, 2, 0, 0, 0, 10, []),
  (48, .ireturn, 1, 0, 0, 0, 0, []),
  (49, .sipush 400, 3, 0, 0, 0, 400, []),
  (52, .ireturn, 1, 0, 0, 0, 0, []),
  (53, .sipush 300, 3, 0, 0, 0, 300, []),
  (56, .ireturn, 1, 0, 0, 0, 0, []),
  (57, .bipush 100, 2, 0, 0, 0, 100, []),
  (59, .ireturn, 1, 0, 0, 0, 0, [])]
def rm_X5_nose : rv_M := (yX5_nose, cX5_nose, 2, some .int, 4, 1, 22, rc_X5_nose)
def rc_X5_smells : rv_C := [
  (0, .aload_n 0, 1, 0, 0, 0, 0, []),
  (1, .iload_n 1, 1, 0, 0, 0, 0, []),
  (2, .iconst 1, 1, 0, 0, 0, 1, []),
  (3, .invokevirtual 65, 3, 114, 13, 828, 0, []),
  (6, .istore_n 2, 1, 0, 0, 0, 0, []),
  (7, .aload_n 0, 1, 0, 0, 0, 0, []),
  (8, .iload_n 2, 1, 0, 0, 0, 0, []),
  (9, .invokevirtual 73, 3, 120, 9, 832, 0, []),
  (12, .istore_n 3, 1, 0, 0, 0, 0, []),
  (13, .iconst 0, 1, 0, 0, 0, 0, []),
  (14, .istore 4, 2, 0, 0, 0, 0, []),
  (16, .iconst 0, 1, 0, 0, 0, 0, []),
  (17, .istore 5, 2, 0, 0, 0, 0, []),
  (19, .iload 5, 2, 0, 0, 0, 0, [6]),
  (21, .iconst 4, 1, 0, 0, 0, 4, []),
  (22, .if_icmp .ge 64, 3, 0, 0, 0, 0, []),
  (25, .aload_n 0, 1, 0, 0, 0, 0, []),
  (26, .getfield 7, 3, 4, 3, 739, 0, []),
  (29, .iload_n 2, 1, 0, 0, 0, 0, []),
  (30, .iload 5, 2, 0, 0, 0, 0, []),
  (32, .invokestatic 62, 3, 118, 9, 816, 0, []),
  (35, .iaload, 1, 0, 0, 0, 0, []),
  (36, .istore 6, 2, 0, 0, 0, 0, []),
  (38, .iload 4, 2, 0, 0, 0, 0, []),
  (40, .iload 5, 2, 0, 0, 0, 0, []),
  (42, .aload_n 0, 1, 0, 0, 0, 0, []),
  (43, .iload_n 1, 1, 0, 0, 0, 0, []),
  (44, .iconst 2, 1, 0, 0, 0, 2, []),
  (45, .invokevirtual 65, 3, 114, 13, 828, 0, []),
  (48, .if_icmp .eq 28, 3, 0, 0, 0, 0, []),
  (51, .iload 6, 2, 0, 0, 0, 0, []),
  (53, .aload_n 0, 1, 0, 0, 0, 0, []),
  (54, .iload_n 1, 1, 0, 0, 0, 0, []),
  (55, .invokevirtual 87, 3, 130, 9, 877, 0, []),
  (58, .iload_n 3, 1, 0, 0, 0, 0, []),
  (59, .iload 6, 2, 0, 0, 0, 0, []),
  (61, .isub, 1, 0, 0, 0, 0, []),
  (62, .bipush 8, 2, 0, 0, 0, 8, []),
  (64, .idiv, 1, 0, 0, 0, 0, []),
  (65, .iadd, 1, 0, 0, 0, 0, []),
  (66, .if_icmp .lt 10, 3, 0, 0, 0, 0, []),
  (69, .iconst 1, 1, 0, 0, 0, 1, []),
  (70, .iload 5, 2, 0, 0, 0, 0, []),
  (72, .ishl, 1, 0, 0, 0, 0, []),
  (73, .goto 4, 3, 0, 0, 0, 0, []),
  (76, .iconst 0, 1, 0, 0, 0, 0, []),
  (77, .ior, 1, 0, 0, 0, 0, []),
  (78, .istore 4, 2, 0, 0, 0, 0, []),
  (80, .iinc 5 1, 3, 0, 0, 0, 1, []),
  (83, .goto (-64), 3, 0, 0, 0, 0, []),
  (86, .iload 4, 2, 0, 0, 0, 0, []),
  (88, .ireturn, 1, 0, 0, 0, 0, [])]
def rm_X5_smells : rv_M := (yX5_smells, cX5_smells, 7, some .int, 4, 2, 44, rc_X5_smells)
def rc_X5_of : rv_C := [
  (0, .aload_n 0, 1, 0, 0, 0, 0, []),
  (1, .iload_n 1, 1, 0, 0, 0, 0, []),
  (2, .invokevirtual 90, 3, 113, 9, 861, 0, []),
  (5, .ifCond .eq 15, 3, 0, 0, 0, 0, []),
  (8, .iload_n 2, 1, 0, 0, 0, 0, []),
  (9, .i2l, 1, 0, 0, 0, 0, []),
  (10, .lconst 0, 1, 0, 0, 0, 0, []),
  (11, .ldc2_w 93, 3, 0, 0, 865, 7, []),
  (14, .invokestatic 49, 3, 107, 13, 796, 0, []),
  (17, .ifCond .ne 10, 3, 0, 0, 0, 0, []),
  (20, .aload_n 0, 1, 0, 0, 0, 0, []),
  (21, .ldc 37, 2, 0, 0, 803, -1000001, []),
  (23, .invokevirtual 39, 3, 108, 9, 804, 0, []),
  (26, .ireturn, 1, 0, 0, 0, 0, []),
  (27, .iload_n 2, 1, 0, 0, 0, 0, []),
  (28, .tableswitch 56 4 7 #[32, 38, 44, 50], 32, 0, 0, 0, 0, []),
  (60, .aload_n 0, 1, 0, 0, 0, 0, []),
  (61, .iload_n 1, 1, 0, 0, 0, 0, []),
  (62, .invokevirtual 95, 3, 128, 9, 866, 0, []),
  (65, .ireturn, 1, 0, 0, 0, 0, []),
  (66, .aload_n 0, 1, 0, 0, 0, 0, []),
  (67, .iload_n 1, 1, 0, 0, 0, 0, []),
  (68, .invokevirtual 98, 3, 129, 9, 873, 0, []),
  (71, .ireturn, 1, 0, 0, 0, 0, []),
  (72, .aload_n 0, 1, 0, 0, 0, 0, []),
  (73, .iload_n 1, 1, 0, 0, 0, 0, []),
  (74, .invokevirtual 87, 3, 130, 9, 877, 0, []),
  (77, .ireturn, 1, 0, 0, 0, 0, []),
  (78, .aload_n 0, 1, 0, 0, 0, 0, []),
  (79, .iload_n 1, 1, 0, 0, 0, 0, []),
  (80, .invokevirtual 101, 3, 131, 9, 881, 0, []),
  (83, .ireturn, 1, 0, 0, 0, 0, []),
  (84, .aload_n 0, 1, 0, 0, 0, 0, []),
  (85, .iload_n 1, 1, 0, 0, 0, 0, []),
  (86, .iload_n 2, 1, 0, 0, 0, 0, []),
  (87, .invokevirtual 65, 3, 114, 13, 828, 0, []),
  (90, .ireturn, 1, 0, 0, 0, 0, [])]
def rm_X5_of : rv_M := (yX5_of, cX5_of, 3, some .int, 4, 3, 70, rc_X5_of)
def rc_X5_greatestOf : rv_C := [
  (0, .iload_n 0, 1, 0, 0, 0, 0, []),
  (1, .ifCond .ne 8, 3, 0, 0, 0, 0, []),
  (4, .bipush 6, 2, 0, 0, 0, 6, []),
  (6, .goto 24, 3, 0, 0, 0, 0, []),
  (9, .iload_n 0, 1, 0, 0, 0, 0, []),
  (10, .iconst 1, 1, 0, 0, 0, 1, []),
  (11, .if_icmp .ne 8, 3, 0, 0, 0, 0, []),
  (14, .bipush 9, 2, 0, 0, 0, 9, []),
  (16, .goto 14, 3, 0, 0, 0, 0, []),
  (19, .iload_n 0, 1, 0, 0, 0, 0, []),
  (20, .iconst 2, 1, 0, 0, 0, 2, []),
  (21, .if_icmp .ne 7, 3, 0, 0, 0, 0, []),
  (24, .iconst 3, 1, 0, 0, 0, 3, []),
  (25, .goto 5, 3, 0, 0, 0, 0, []),
  (28, .bipush 15, 2, 0, 0, 0, 15, []),
  (30, .ireturn, 1, 0, 0, 0, 0, [])]
def rm_X5_greatestOf : rv_M := (yX5_greatestOf, cX5_greatestOf, 1, some .int, 99, 0, 0, rc_X5_greatestOf)
def rc_X5_change : rv_C := [
  (0, .aload_n 0, 1, 0, 0, 0, 0, []),
  (1, .iload_n 1, 1, 0, 0, 0, 0, []),
  (2, .invokevirtual 90, 3, 113, 9, 861, 0, []),
  (5, .ifCond .eq 33, 3, 0, 0, 0, 0, []),
  (8, .iload_n 2, 1, 0, 0, 0, 0, []),
  (9, .i2l, 1, 0, 0, 0, 0, []),
  (10, .lconst 0, 1, 0, 0, 0, 0, []),
  (11, .ldc2_w 104, 3, 0, 0, 889, 3, []),
  (14, .invokestatic 49, 3, 107, 13, 796, 0, []),
  (17, .ifCond .eq 21, 3, 0, 0, 0, 0, []),
  (20, .iload_n 3, 1, 0, 0, 0, 0, []),
  (21, .i2l, 1, 0, 0, 0, 0, []),
  (22, .lconst 0, 1, 0, 0, 0, 0, []),
  (23, .iload_n 2, 1, 0, 0, 0, 0, []),
  (24, .invokestatic 106, 3, 133, 5, 890, 0, []),
  (27, .i2l, 1, 0, 0, 0, 0, []),
  (28, .invokestatic 49, 3, 107, 13, 796, 0, []),
  (31, .ifCond .eq 7, 3, 0, 0, 0, 0, []),
  (34, .iconst 1, 1, 0, 0, 0, 1, []),
  (35, .goto 4, 3, 0, 0, 0, 0, []),
  (38, .iconst 0, 1, 0, 0, 0, 0, []),
  (39, .istore 4, 2, 0, 0, 0, 0, []),
  (41, .iload 4, 2, 0, 0, 0, 0, []),
  (43, .ifCond .eq 19, 3, 0, 0, 0, 0, []),
  (46, .aload_n 0, 1, 0, 0, 0, 0, []),
  (47, .bipush 54, 2, 0, 0, 0, 54, []),
  (49, .iconst 4, 1, 0, 0, 0, 4, []),
  (50, .iload_n 1, 1, 0, 0, 0, 0, []),
  (51, .imul, 1, 0, 0, 0, 0, []),
  (52, .iadd, 1, 0, 0, 0, 0, []),
  (53, .iload_n 2, 1, 0, 0, 0, 0, []),
  (54, .iadd, 1, 0, 0, 0, 0, []),
  (55, .iload_n 3, 1, 0, 0, 0, 0, []),
  (56, .invokevirtual 53, 3, 109, 13, 799, 0, []),
  (59, .goto 9, 3, 0, 0, 0, 0, []),
  (62, .aload_n 0, 1, 0, 0, 0, 0, []),
  (63, .ldc 37, 2, 0, 0, 803, -1000001, []),
  (65, .invokevirtual 39, 3, 108, 9, 804, 0, []),
  (68, .ireturn, 1, 0, 0, 0, 0, [])]
def rm_X5_change : rv_M := (yX5_change, cX5_change, 5, some .int, 4, 1, 25, rc_X5_change)
def rc_X5_swaps : rv_C := [
  (0, .aload_n 0, 1, 0, 0, 0, 0, []),
  (1, .iload_n 1, 1, 0, 0, 0, 0, []),
  (2, .iconst 1, 1, 0, 0, 0, 1, []),
  (3, .invokevirtual 65, 3, 114, 13, 828, 0, []),
  (6, .istore_n 3, 1, 0, 0, 0, 0, []),
  (7, .aload_n 0, 1, 0, 0, 0, 0, []),
  (8, .getfield 7, 3, 4, 3, 739, 0, []),
  (11, .bipush 54, 2, 0, 0, 0, 54, []),
  (13, .iconst 4, 1, 0, 0, 0, 4, []),
  (14, .iload_n 1, 1, 0, 0, 0, 0, []),
  (15, .imul, 1, 0, 0, 0, 0, []),
  (16, .iadd, 1, 0, 0, 0, 0, []),
  (17, .iconst 1, 1, 0, 0, 0, 1, []),
  (18, .iadd, 1, 0, 0, 0, 0, []),
  (19, .aload_n 0, 1, 0, 0, 0, 0, []),
  (20, .iload_n 2, 1, 0, 0, 0, 0, []),
  (21, .iconst 1, 1, 0, 0, 0, 1, []),
  (22, .invokevirtual 65, 3, 114, 13, 828, 0, []),
  (25, .iastore, 1, 0, 0, 0, 0, []),
  (26, .aload_n 0, 1, 0, 0, 0, 0, []),
  (27, .getfield 7, 3, 4, 3, 739, 0, []),
  (30, .bipush 54, 2, 0, 0, 0, 54, []),
  (32, .iconst 4, 1, 0, 0, 0, 4, []),
  (33, .iload_n 2, 1, 0, 0, 0, 0, []),
  (34, .imul, 1, 0, 0, 0, 0, []),
  (35, .iadd, 1, 0, 0, 0, 0, []),
  (36, .iconst 1, 1, 0, 0, 0, 1, []),
  (37, .iadd, 1, 0, 0, 0, 0, []),
  (38, .iload_n 3, 1, 0, 0, 0, 0, []),
  (39, .iastore, 1, 0, 0, 0, 0, []),
  (40, .aload_n 0, 1, 0, 0, 0, 0, []),
  (41, .iload_n 1, 1, 0, 0, 0, 0, []),
  (42, .iconst 1, 1, 0, 0, 0, 1, []),
  (43, .invokevirtual 65, 3, 114, 13, 828, 0, []),
  (46, .iload_n 3, 1, 0, 0, 0, 0, []),
  (47, .if_icmp .ne 7, 3, 0, 0, 0, 0, []),
  (50, .iconst 0, 1, 0, 0, 0, 0, []),
  (51, .goto 4, 3, 0, 0, 0, 0, []),
  (54, .iconst 1, 1, 0, 0, 0, 1, []),
  (55, .ireturn, 1, 0, 0, 0, 0, [])]
def rm_X5_swaps : rv_M := (yX5_swaps, cX5_swaps, 4, some .int, 4, 1, 22, rc_X5_swaps)
def rc_X5_swap : rv_C := [
  (0, .aload_n 0, 1, 0, 0, 0, 0, []),
  (1, .iload_n 1, 1, 0, 0, 0, 0, []),
  (2, .invokevirtual 90, 3, 113, 9, 861, 0, []),
  (5, .ifCond .eq 25, 3, 0, 0, 0, 0, []),
  (8, .aload_n 0, 1, 0, 0, 0, 0, []),
  (9, .iload_n 2, 1, 0, 0, 0, 0, []),
  (10, .invokevirtual 90, 3, 113, 9, 861, 0, []),
  (13, .ifCond .eq 17, 3, 0, 0, 0, 0, []),
  (16, .iload_n 1, 1, 0, 0, 0, 0, []),
  (17, .iload_n 2, 1, 0, 0, 0, 0, []),
  (18, .if_icmp .eq 12, 3, 0, 0, 0, 0, []),
  (21, .aload_n 0, 1, 0, 0, 0, 0, []),
  (22, .iload_n 1, 1, 0, 0, 0, 0, []),
  (23, .iload_n 2, 1, 0, 0, 0, 0, []),
  (24, .invokevirtual 109, 3, 135, 13, 897, 0, []),
  (27, .goto 9, 3, 0, 0, 0, 0, []),
  (30, .aload_n 0, 1, 0, 0, 0, 0, []),
  (31, .ldc 37, 2, 0, 0, 803, -1000001, []),
  (33, .invokevirtual 39, 3, 108, 9, 804, 0, []),
  (36, .ireturn, 1, 0, 0, 0, 0, [])]
def rm_X5_swap : rv_M := (yX5_swap, cX5_swap, 3, some .int, 4, 2, 45, rc_X5_swap)
def rc_X5_flows : rv_C := [
  (0, .bipush 9, 2, 0, 0, 0, 9, []),
  (2, .istore_n 1, 1, 0, 0, 0, 0, []),
  (3, .iload_n 1, 1, 0, 0, 0, 0, [3]),
  (4, .ifCond .le 78, 3, 0, 0, 0, 0, []),
  (7, .aload_n 0, 1, 0, 0, 0, 0, []),
  (8, .getfield 7, 3, 4, 3, 739, 0, []),
  (11, .iconst 4, 1, 0, 0, 0, 4, []),
  (12, .iload_n 1, 1, 0, 0, 0, 0, []),
  (13, .iadd, 1, 0, 0, 0, 0, []),
  (14, .iconst 1, 1, 0, 0, 0, 1, []),
  (15, .isub, 1, 0, 0, 0, 0, []),
  (16, .iaload, 1, 0, 0, 0, 0, []),
  (17, .iconst 4, 1, 0, 0, 0, 4, []),
  (18, .isub, 1, 0, 0, 0, 0, []),
  (19, .istore_n 2, 1, 0, 0, 0, 0, []),
  (20, .aload_n 0, 1, 0, 0, 0, 0, []),
  (21, .getfield 7, 3, 4, 3, 739, 0, []),
  (24, .iconst 4, 1, 0, 0, 0, 4, []),
  (25, .iload_n 1, 1, 0, 0, 0, 0, []),
  (26, .iadd, 1, 0, 0, 0, 0, []),
  (27, .iload_n 2, 1, 0, 0, 0, 0, []),
  (28, .ifCond .ge 7, 3, 0, 0, 0, 0, []),
  (31, .iconst 0, 1, 0, 0, 0, 0, []),
  (32, .goto 4, 3, 0, 0, 0, 0, []),
  (35, .iload_n 2, 1, 0, 0, 0, 0, []),
  (36, .iastore, 1, 0, 0, 0, 0, []),
  (37, .iconst 0, 1, 0, 0, 0, 0, []),
  (38, .istore_n 3, 1, 0, 0, 0, 0, []),
  (39, .iload_n 3, 1, 0, 0, 0, 0, [2]),
  (40, .iconst 4, 1, 0, 0, 0, 4, []),
  (41, .if_icmp .ge 35, 3, 0, 0, 0, 0, []),
  (44, .aload_n 0, 1, 0, 0, 0, 0, []),
  (45, .getfield 7, 3, 4, 3, 739, 0, []),
  (48, .iload_n 1, 1, 0, 0, 0, 0, []),
  (49, .iload_n 3, 1, 0, 0, 0, 0, []),
  (50, .invokestatic 62, 3, 118, 9, 816, 0, []),
  (53, .aload_n 0, 1, 0, 0, 0, 0, []),
  (54, .getfield 7, 3, 4, 3, 739, 0, []),
  (57, .iload_n 1, 1, 0, 0, 0, 0, []),
  (58, .iconst 1, 1, 0, 0, 0, 1, []),
  (59, .isub, 1, 0, 0, 0, 0, []),
  (60, .iload_n 3, 1, 0, 0, 0, 0, []),
  (61, .invokestatic 62, 3, 118, 9, 816, 0, []),
  (64, .iaload, 1, 0, 0, 0, 0, []),
  (65, .iconst 3, 1, 0, 0, 0, 3, []),
  (66, .imul, 1, 0, 0, 0, 0, []),
  (67, .iconst 4, 1, 0, 0, 0, 4, []),
  (68, .idiv, 1, 0, 0, 0, 0, []),
  (69, .iastore, 1, 0, 0, 0, 0, []),
  (70, .iinc 3 1, 3, 0, 0, 0, 1, []),
  (73, .goto (-34), 3, 0, 0, 0, 0, []),
  (76, .iinc 1 (-1), 3, 0, 0, 0, -1, []),
  (79, .goto (-76), 3, 0, 0, 0, 0, []),
  (82, .aload_n 0, 1, 0, 0, 0, 0, []),
  (83, .getfield 7, 3, 4, 3, 739, 0, []),
  (86, .iconst 4, 1, 0, 0, 0, 4, []),
  (87, .aload_n 0, 1, 0, 0, 0, 0, []),
  (88, .getfield 7, 3, 4, 3, 739, 0, []),
  (91, .iconst 2, 1, 0, 0, 0, 2, []),
  (92, .iaload, 1, 0, 0, 0, 0, []),
  (93, .iastore, 1, 0, 0, 0, 0, []),
  (94, .iconst 0, 1, 0, 0, 0, 0, []),
  (95, .istore_n 1, 1, 0, 0, 0, 0, []),
  (96, .iload_n 1, 1, 0, 0, 0, 0, []),
  (97, .iconst 4, 1, 0, 0, 0, 4, []),
  (98, .if_icmp .ge 20, 3, 0, 0, 0, 0, []),
  (101, .aload_n 0, 1, 0, 0, 0, 0, []),
  (102, .getfield 7, 3, 4, 3, 739, 0, []),
  (105, .iconst 0, 1, 0, 0, 0, 0, []),
  (106, .iload_n 1, 1, 0, 0, 0, 0, []),
  (107, .invokestatic 62, 3, 118, 9, 816, 0, []),
  (110, .iconst 0, 1, 0, 0, 0, 0, []),
  (111, .iastore, 1, 0, 0, 0, 0, []),
  (112, .iinc 1 1, 3, 0, 0, 0, 1, []),
  (115, .goto (-19), 3, 0, 0, 0, 0, []),
  (118, .return_, 1, 0, 0, 0, 0, [])]
def rm_X5_flows : rv_M := (yX5_flows, cX5_flows, 4, none, 4, 1, 21, rc_X5_flows)
def rc_X5_hourBut : rv_C := [
  (0, .aload_n 0, 1, 0, 0, 0, 0, []),
  (1, .invokevirtual 112, 3, 137, 4, 916, 0, []),
  (4, .iconst 0, 1, 0, 0, 0, 0, []),
  (5, .istore_n 2, 1, 0, 0, 0, 0, []),
  (6, .iload_n 2, 1, 0, 0, 0, 0, [4, 5]),
  (7, .aload_n 0, 1, 0, 0, 0, 0, []),
  (8, .getfield 7, 3, 4, 3, 739, 0, []),
  (11, .iconst 0, 1, 0, 0, 0, 0, []),
  (12, .iaload, 1, 0, 0, 0, 0, []),
  (13, .if_icmp .ge 117, 3, 0, 0, 0, 0, []),
  (16, .iload_n 1, 1, 0, 0, 0, 0, []),
  (17, .iload_n 2, 1, 0, 0, 0, 0, []),
  (18, .ishr, 1, 0, 0, 0, 0, []),
  (19, .iconst 1, 1, 0, 0, 0, 1, []),
  (20, .iand, 1, 0, 0, 0, 0, []),
  (21, .ifCond .ne 103, 3, 0, 0, 0, 0, []),
  (24, .iconst 4, 1, 0, 0, 0, 4, []),
  (25, .aload_n 0, 1, 0, 0, 0, 0, []),
  (26, .iload_n 2, 1, 0, 0, 0, 0, []),
  (27, .iconst 1, 1, 0, 0, 0, 1, []),
  (28, .invokevirtual 65, 3, 114, 13, 828, 0, []),
  (31, .iadd, 1, 0, 0, 0, 0, []),
  (32, .istore_n 3, 1, 0, 0, 0, 0, []),
  (33, .aload_n 0, 1, 0, 0, 0, 0, []),
  (34, .getfield 7, 3, 4, 3, 739, 0, []),
  (37, .iload_n 3, 1, 0, 0, 0, 0, []),
  (38, .aload_n 0, 1, 0, 0, 0, 0, []),
  (39, .getfield 7, 3, 4, 3, 739, 0, []),
  (42, .iload_n 3, 1, 0, 0, 0, 0, []),
  (43, .iaload, 1, 0, 0, 0, 0, []),
  (44, .aload_n 0, 1, 0, 0, 0, 0, []),
  (45, .iload_n 2, 1, 0, 0, 0, 0, []),
  (46, .invokevirtual 98, 3, 129, 9, 873, 0, []),
  (49, .if_icmp .ge 7, 3, 0, 0, 0, 0, []),
  (52, .iconst 0, 1, 0, 0, 0, 0, []),
  (53, .goto 15, 3, 0, 0, 0, 0, []),
  (56, .aload_n 0, 1, 0, 0, 0, 0, []),
  (57, .getfield 7, 3, 4, 3, 739, 0, []),
  (60, .iload_n 3, 1, 0, 0, 0, 0, []),
  (61, .iaload, 1, 0, 0, 0, 0, []),
  (62, .aload_n 0, 1, 0, 0, 0, 0, []),
  (63, .iload_n 2, 1, 0, 0, 0, 0, []),
  (64, .invokevirtual 98, 3, 129, 9, 873, 0, []),
  (67, .isub, 1, 0, 0, 0, 0, []),
  (68, .iastore, 1, 0, 0, 0, 0, [3]),
  (69, .aload_n 0, 1, 0, 0, 0, 0, []),
  (70, .iload_n 2, 1, 0, 0, 0, 0, []),
  (71, .iconst 1, 1, 0, 0, 0, 1, []),
  (72, .invokevirtual 65, 3, 114, 13, 828, 0, []),
  (75, .aload_n 0, 1, 0, 0, 0, 0, []),
  (76, .iload_n 2, 1, 0, 0, 0, 0, []),
  (77, .iconst 2, 1, 0, 0, 0, 2, []),
  (78, .invokevirtual 65, 3, 114, 13, 828, 0, []),
  (81, .invokestatic 62, 3, 118, 9, 816, 0, []),
  (84, .istore 4, 2, 0, 0, 0, 0, []),
  (86, .aload_n 0, 1, 0, 0, 0, 0, []),
  (87, .getfield 7, 3, 4, 3, 739, 0, []),
  (90, .iload 4, 2, 0, 0, 0, 0, []),
  (92, .iaload, 1, 0, 0, 0, 0, []),
  (93, .aload_n 0, 1, 0, 0, 0, 0, []),
  (94, .iload_n 2, 1, 0, 0, 0, 0, []),
  (95, .invokevirtual 95, 3, 128, 9, 866, 0, []),
  (98, .iadd, 1, 0, 0, 0, 0, []),
  (99, .istore 5, 2, 0, 0, 0, 0, []),
  (101, .aload_n 0, 1, 0, 0, 0, 0, []),
  (102, .getfield 7, 3, 4, 3, 739, 0, []),
  (105, .iload 4, 2, 0, 0, 0, 0, []),
  (107, .iload 5, 2, 0, 0, 0, 0, []),
  (109, .sipush 9999, 3, 0, 0, 0, 9999, []),
  (112, .if_icmp .le 9, 3, 0, 0, 0, 0, []),
  (115, .sipush 9999, 3, 0, 0, 0, 9999, []),
  (118, .goto 5, 3, 0, 0, 0, 0, []),
  (121, .iload 5, 2, 0, 0, 0, 0, []),
  (123, .iastore, 1, 0, 0, 0, 0, []),
  (124, .iinc 2 1, 3, 0, 0, 0, 1, []),
  (127, .goto (-121), 3, 0, 0, 0, 0, []),
  (130, .lconst 0, 1, 0, 0, 0, 0, []),
  (131, .lstore_n 2, 1, 0, 0, 0, 0, []),
  (132, .iconst 0, 1, 0, 0, 0, 0, []),
  (133, .istore 4, 2, 0, 0, 0, 0, []),
  (135, .iload 4, 2, 0, 0, 0, 0, [5]),
  (137, .aload_n 0, 1, 0, 0, 0, 0, []),
  (138, .getfield 7, 3, 4, 3, 739, 0, []),
  (141, .iconst 0, 1, 0, 0, 0, 0, []),
  (142, .iaload, 1, 0, 0, 0, 0, []),
  (143, .if_icmp .ge 66, 3, 0, 0, 0, 0, []),
  (146, .iload_n 1, 1, 0, 0, 0, 0, []),
  (147, .iload 4, 2, 0, 0, 0, 0, []),
  (149, .ishr, 1, 0, 0, 0, 0, []),
  (150, .iconst 1, 1, 0, 0, 0, 1, []),
  (151, .iand, 1, 0, 0, 0, 0, []),
  (152, .ifCond .ne 51, 3, 0, 0, 0, 0, []),
  (155, .aload_n 0, 1, 0, 0, 0, 0, []),
  (156, .iload 4, 2, 0, 0, 0, 0, []),
  (158, .invokevirtual 101, 3, 131, 9, 881, 0, []),
  (161, .aload_n 0, 1, 0, 0, 0, 0, []),
  (162, .iload 4, 2, 0, 0, 0, 0, []),
  (164, .iconst 3, 1, 0, 0, 0, 3, []),
  (165, .invokevirtual 65, 3, 114, 13, 828, 0, []),
  (168, .iconst (-1), 1, 0, 0, 0, -1, []),
  (169, .ixor, 1, 0, 0, 0, 0, []),
  (170, .iand, 1, 0, 0, 0, 0, []),
  (171, .istore 5, 2, 0, 0, 0, 0, []),
  (173, .aload_n 0, 1, 0, 0, 0, 0, []),
  (174, .getfield 7, 3, 4, 3, 739, 0, []),
  (177, .bipush 54, 2, 0, 0, 0, 54, []),
  (179, .iconst 4, 1, 0, 0, 0, 4, []),
  (180, .iload 4, 2, 0, 0, 0, 0, []),
  (182, .imul, 1, 0, 0, 0, 0, []),
  (183, .iadd, 1, 0, 0, 0, 0, []),
  (184, .iconst 3, 1, 0, 0, 0, 3, []),
  (185, .iadd, 1, 0, 0, 0, 0, []),
  (186, .dup2, 1, 0, 0, 0, 0, []),
  (187, .iaload, 1, 0, 0, 0, 0, []),
  (188, .iload 5, 2, 0, 0, 0, 0, []),
  (190, .ior, 1, 0, 0, 0, 0, []),
  (191, .iastore, 1, 0, 0, 0, 0, []),
  (192, .lload_n 2, 1, 0, 0, 0, 0, []),
  (193, .iload 5, 2, 0, 0, 0, 0, []),
  (195, .i2l, 1, 0, 0, 0, 0, []),
  (196, .iconst 4, 1, 0, 0, 0, 4, []),
  (197, .iload 4, 2, 0, 0, 0, 0, []),
  (199, .imul, 1, 0, 0, 0, 0, []),
  (200, .lshl, 1, 0, 0, 0, 0, []),
  (201, .lor, 1, 0, 0, 0, 0, []),
  (202, .lstore_n 2, 1, 0, 0, 0, 0, []),
  (203, .iinc 4 1, 3, 0, 0, 0, 1, []),
  (206, .goto (-71), 3, 0, 0, 0, 0, []),
  (209, .aload_n 0, 1, 0, 0, 0, 0, []),
  (210, .getfield 7, 3, 4, 3, 739, 0, []),
  (213, .iconst 1, 1, 0, 0, 0, 1, []),
  (214, .dup2, 1, 0, 0, 0, 0, []),
  (215, .iaload, 1, 0, 0, 0, 0, []),
  (216, .iconst 1, 1, 0, 0, 0, 1, []),
  (217, .iadd, 1, 0, 0, 0, 0, []),
  (218, .iastore, 1, 0, 0, 0, 0, []),
  (219, .lload_n 2, 1, 0, 0, 0, 0, []),
  (220, .lreturn, 1, 0, 0, 0, 0, [])]
def rm_X5_hourBut : rv_M := (yX5_hourBut, cX5_hourBut, 6, some .long, 4, 3, 70, rc_X5_hourBut)
def rc_X5_hours : rv_C := [
  (0, .iconst 0, 1, 0, 0, 0, 0, []),
  (1, .istore_n 2, 1, 0, 0, 0, 0, []),
  (2, .iload_n 2, 1, 0, 0, 0, 0, [3]),
  (3, .iload_n 1, 1, 0, 0, 0, 0, []),
  (4, .if_icmp .ge 15, 3, 0, 0, 0, 0, []),
  (7, .aload_n 0, 1, 0, 0, 0, 0, []),
  (8, .iconst 0, 1, 0, 0, 0, 0, []),
  (9, .invokevirtual 115, 3, 138, 10, 912, 0, []),
  (12, .lstore_n 3, 1, 0, 0, 0, 0, []),
  (13, .iinc 2 1, 3, 0, 0, 0, 1, []),
  (16, .goto (-14), 3, 0, 0, 0, 0, []),
  (19, .return_, 1, 0, 0, 0, 0, [])]
def rm_X5_hours : rv_M := (yX5_hours, cX5_hours, 5, none, 4, 4, 95, rc_X5_hours)
def rc_X5_go : rv_C := [
  (0, .iload_n 1, 1, 0, 0, 0, 0, []),
  (1, .i2l, 1, 0, 0, 0, 0, []),
  (2, .lconst 1, 1, 0, 0, 0, 1, []),
  (3, .ldc2_w 119, 3, 0, 0, 905, 40, []),
  (6, .invokestatic 49, 3, 107, 13, 796, 0, []),
  (9, .ifCond .ne 10, 3, 0, 0, 0, 0, []),
  (12, .aload_n 0, 1, 0, 0, 0, 0, []),
  (13, .ldc 37, 2, 0, 0, 803, -1000001, []),
  (15, .invokevirtual 39, 3, 108, 9, 804, 0, []),
  (18, .ireturn, 1, 0, 0, 0, 0, []),
  (19, .aload_n 0, 1, 0, 0, 0, 0, []),
  (20, .getfield 7, 3, 4, 3, 739, 0, []),
  (23, .iconst 1, 1, 0, 0, 0, 1, []),
  (24, .iaload, 1, 0, 0, 0, 0, []),
  (25, .iload_n 1, 1, 0, 0, 0, 0, []),
  (26, .iadd, 1, 0, 0, 0, 0, []),
  (27, .ldc 121, 2, 0, 0, 906, 99999, []),
  (29, .if_icmp .le 10, 3, 0, 0, 0, 0, []),
  (32, .aload_n 0, 1, 0, 0, 0, 0, []),
  (33, .ldc 122, 2, 0, 0, 907, -1000005, []),
  (35, .invokevirtual 39, 3, 108, 9, 804, 0, []),
  (38, .ireturn, 1, 0, 0, 0, 0, []),
  (39, .aload_n 0, 1, 0, 0, 0, 0, []),
  (40, .iload_n 1, 1, 0, 0, 0, 0, []),
  (41, .invokevirtual 123, 3, 139, 8, 908, 0, []),
  (44, .aload_n 0, 1, 0, 0, 0, 0, []),
  (45, .getfield 7, 3, 4, 3, 739, 0, []),
  (48, .bipush 13, 2, 0, 0, 0, 13, []),
  (50, .iaload, 1, 0, 0, 0, 0, []),
  (51, .ireturn, 1, 0, 0, 0, 0, [])]
def rm_X5_go : rv_M := (yX5_go, cX5_go, 2, some .int, 4, 5, 119, rc_X5_go)
def rc_X5_sumOf : rv_C := [
  (0, .iconst 0, 1, 0, 0, 0, 0, []),
  (1, .istore_n 3, 1, 0, 0, 0, 0, []),
  (2, .iconst 0, 1, 0, 0, 0, 0, []),
  (3, .istore 4, 2, 0, 0, 0, 0, []),
  (5, .iload 4, 2, 0, 0, 0, 0, []),
  (7, .iload_n 2, 1, 0, 0, 0, 0, []),
  (8, .if_icmp .ge 21, 3, 0, 0, 0, 0, []),
  (11, .iload_n 3, 1, 0, 0, 0, 0, []),
  (12, .aload_n 0, 1, 0, 0, 0, 0, []),
  (13, .getfield 7, 3, 4, 3, 739, 0, []),
  (16, .iload_n 1, 1, 0, 0, 0, 0, []),
  (17, .iload 4, 2, 0, 0, 0, 0, []),
  (19, .iadd, 1, 0, 0, 0, 0, []),
  (20, .iaload, 1, 0, 0, 0, 0, []),
  (21, .iadd, 1, 0, 0, 0, 0, []),
  (22, .istore_n 3, 1, 0, 0, 0, 0, []),
  (23, .iinc 4 1, 3, 0, 0, 0, 1, []),
  (26, .goto (-21), 3, 0, 0, 0, 0, []),
  (29, .iload_n 3, 1, 0, 0, 0, 0, []),
  (30, .ireturn, 1, 0, 0, 0, 0, [])]
def rm_X5_sumOf : rv_M := (yX5_sumOf, cX5_sumOf, 5, some .int, 4, 0, 0, rc_X5_sumOf)
def rc_X5_coldTubs : rv_C := [
  (0, .iconst 0, 1, 0, 0, 0, 0, []),
  (1, .istore_n 1, 1, 0, 0, 0, 0, []),
  (2, .iconst 0, 1, 0, 0, 0, 0, []),
  (3, .istore_n 2, 1, 0, 0, 0, 0, []),
  (4, .iload_n 2, 1, 0, 0, 0, 0, []),
  (5, .bipush 10, 2, 0, 0, 0, 10, []),
  (7, .if_icmp .ge 32, 3, 0, 0, 0, 0, []),
  (10, .iload_n 1, 1, 0, 0, 0, 0, []),
  (11, .aload_n 0, 1, 0, 0, 0, 0, []),
  (12, .getfield 7, 3, 4, 3, 739, 0, []),
  (15, .iconst 4, 1, 0, 0, 0, 4, []),
  (16, .iload_n 2, 1, 0, 0, 0, 0, []),
  (17, .iadd, 1, 0, 0, 0, 0, []),
  (18, .iaload, 1, 0, 0, 0, 0, []),
  (19, .bipush 40, 2, 0, 0, 0, 40, []),
  (21, .if_icmp .ge 9, 3, 0, 0, 0, 0, []),
  (24, .iconst 1, 1, 0, 0, 0, 1, []),
  (25, .iload_n 2, 1, 0, 0, 0, 0, []),
  (26, .ishl, 1, 0, 0, 0, 0, []),
  (27, .goto 4, 3, 0, 0, 0, 0, []),
  (30, .iconst 0, 1, 0, 0, 0, 0, []),
  (31, .ior, 1, 0, 0, 0, 0, []),
  (32, .istore_n 1, 1, 0, 0, 0, 0, []),
  (33, .iinc 2 1, 3, 0, 0, 0, 1, []),
  (36, .goto (-32), 3, 0, 0, 0, 0, []),
  (39, .iload_n 1, 1, 0, 0, 0, 0, []),
  (40, .ireturn, 1, 0, 0, 0, 0, [])]
def rm_X5_coldTubs : rv_M := (yX5_coldTubs, cX5_coldTubs, 3, some .int, 4, 0, 0, rc_X5_coldTubs)
def rc_X5_knowing : rv_C := [
  (0, .iconst 0, 1, 0, 0, 0, 0, []),
  (1, .istore_n 1, 1, 0, 0, 0, 0, []),
  (2, .iconst 0, 1, 0, 0, 0, 0, []),
  (3, .istore_n 2, 1, 0, 0, 0, 0, []),
  (4, .iload_n 2, 1, 0, 0, 0, 0, []),
  (5, .aload_n 0, 1, 0, 0, 0, 0, []),
  (6, .getfield 7, 3, 4, 3, 739, 0, []),
  (9, .iconst 0, 1, 0, 0, 0, 0, []),
  (10, .iaload, 1, 0, 0, 0, 0, []),
  (11, .if_icmp .ge 39, 3, 0, 0, 0, 0, []),
  (14, .iload_n 1, 1, 0, 0, 0, 0, []),
  (15, .aload_n 0, 1, 0, 0, 0, 0, []),
  (16, .iload_n 2, 1, 0, 0, 0, 0, []),
  (17, .iconst 3, 1, 0, 0, 0, 3, []),
  (18, .invokevirtual 65, 3, 114, 13, 828, 0, []),
  (21, .iconst 1, 1, 0, 0, 0, 1, []),
  (22, .aload_n 0, 1, 0, 0, 0, 0, []),
  (23, .iload_n 2, 1, 0, 0, 0, 0, []),
  (24, .iconst 2, 1, 0, 0, 0, 2, []),
  (25, .invokevirtual 65, 3, 114, 13, 828, 0, []),
  (28, .ishl, 1, 0, 0, 0, 0, []),
  (29, .ior, 1, 0, 0, 0, 0, []),
  (30, .bipush 15, 2, 0, 0, 0, 15, []),
  (32, .if_icmp .ne 9, 3, 0, 0, 0, 0, []),
  (35, .iconst 1, 1, 0, 0, 0, 1, []),
  (36, .iload_n 2, 1, 0, 0, 0, 0, []),
  (37, .ishl, 1, 0, 0, 0, 0, []),
  (38, .goto 4, 3, 0, 0, 0, 0, []),
  (41, .iconst 0, 1, 0, 0, 0, 0, []),
  (42, .ior, 1, 0, 0, 0, 0, []),
  (43, .istore_n 1, 1, 0, 0, 0, 0, []),
  (44, .iinc 2 1, 3, 0, 0, 0, 1, []),
  (47, .goto (-43), 3, 0, 0, 0, 0, []),
  (50, .iload_n 1, 1, 0, 0, 0, 0, []),
  (51, .ireturn, 1, 0, 0, 0, 0, [])]
def rm_X5_knowing : rv_M := (yX5_knowing, cX5_knowing, 3, some .int, 4, 1, 22, rc_X5_knowing)
def rc_X5_unknown : rv_C := [
  (0, .iconst 0, 1, 0, 0, 0, 0, []),
  (1, .istore_n 1, 1, 0, 0, 0, 0, []),
  (2, .iconst 0, 1, 0, 0, 0, 0, []),
  (3, .istore_n 2, 1, 0, 0, 0, 0, []),
  (4, .iload_n 2, 1, 0, 0, 0, 0, [3, 4]),
  (5, .aload_n 0, 1, 0, 0, 0, 0, []),
  (6, .getfield 7, 3, 4, 3, 739, 0, []),
  (9, .iconst 0, 1, 0, 0, 0, 0, []),
  (10, .iaload, 1, 0, 0, 0, 0, []),
  (11, .if_icmp .ge 78, 3, 0, 0, 0, 0, []),
  (14, .iconst 1, 1, 0, 0, 0, 1, []),
  (15, .istore_n 3, 1, 0, 0, 0, 0, []),
  (16, .iconst 0, 1, 0, 0, 0, 0, []),
  (17, .istore 4, 2, 0, 0, 0, 0, []),
  (19, .iload 4, 2, 0, 0, 0, 0, []),
  (21, .aload_n 0, 1, 0, 0, 0, 0, []),
  (22, .getfield 7, 3, 4, 3, 739, 0, []),
  (25, .iconst 0, 1, 0, 0, 0, 0, []),
  (26, .iaload, 1, 0, 0, 0, 0, []),
  (27, .if_icmp .ge 42, 3, 0, 0, 0, 0, []),
  (30, .iload_n 3, 1, 0, 0, 0, 0, []),
  (31, .iload 4, 2, 0, 0, 0, 0, []),
  (33, .iload_n 2, 1, 0, 0, 0, 0, []),
  (34, .if_icmp .eq 22, 3, 0, 0, 0, 0, []),
  (37, .aload_n 0, 1, 0, 0, 0, 0, []),
  (38, .iload 4, 2, 0, 0, 0, 0, []),
  (40, .iconst 3, 1, 0, 0, 0, 3, []),
  (41, .invokevirtual 65, 3, 114, 13, 828, 0, []),
  (44, .aload_n 0, 1, 0, 0, 0, 0, []),
  (45, .iload_n 2, 1, 0, 0, 0, 0, []),
  (46, .iconst 2, 1, 0, 0, 0, 2, []),
  (47, .invokevirtual 65, 3, 114, 13, 828, 0, []),
  (50, .ishr, 1, 0, 0, 0, 0, []),
  (51, .iconst 1, 1, 0, 0, 0, 1, []),
  (52, .iand, 1, 0, 0, 0, 0, []),
  (53, .ifCond .ne 7, 3, 0, 0, 0, 0, []),
  (56, .iconst 1, 1, 0, 0, 0, 1, []),
  (57, .goto 4, 3, 0, 0, 0, 0, []),
  (60, .iconst 0, 1, 0, 0, 0, 0, []),
  (61, .iand, 1, 0, 0, 0, 0, []),
  (62, .istore_n 3, 1, 0, 0, 0, 0, []),
  (63, .iinc 4 1, 3, 0, 0, 0, 1, []),
  (66, .goto (-47), 3, 0, 0, 0, 0, []),
  (69, .iload_n 1, 1, 0, 0, 0, 0, []),
  (70, .iload_n 3, 1, 0, 0, 0, 0, []),
  (71, .ifCond .eq 9, 3, 0, 0, 0, 0, []),
  (74, .iconst 1, 1, 0, 0, 0, 1, []),
  (75, .iload_n 2, 1, 0, 0, 0, 0, []),
  (76, .ishl, 1, 0, 0, 0, 0, []),
  (77, .goto 4, 3, 0, 0, 0, 0, []),
  (80, .iconst 0, 1, 0, 0, 0, 0, []),
  (81, .ior, 1, 0, 0, 0, 0, []),
  (82, .istore_n 1, 1, 0, 0, 0, 0, []),
  (83, .iinc 2 1, 3, 0, 0, 0, 1, []),
  (86, .goto (-82), 3, 0, 0, 0, 0, []),
  (89, .iload_n 1, 1, 0, 0, 0, 0, []),
  (90, .ireturn, 1, 0, 0, 0, 0, [])]
def rm_X5_unknown : rv_M := (yX5_unknown, cX5_unknown, 5, some .int, 4, 1, 22, rc_X5_unknown)
def rc_X5_now : rv_C := [
  (0, .iload_n 1, 1, 0, 0, 0, 0, []),
  (1, .tableswitch 78 0 5 #[39, 46, 54, 63, 68, 73], 39, 0, 0, 0, 0, []),
  (40, .aload_n 0, 1, 0, 0, 0, 0, []),
  (41, .getfield 7, 3, 4, 3, 739, 0, []),
  (44, .iconst 1, 1, 0, 0, 0, 1, []),
  (45, .iaload, 1, 0, 0, 0, 0, []),
  (46, .ireturn, 1, 0, 0, 0, 0, []),
  (47, .aload_n 0, 1, 0, 0, 0, 0, []),
  (48, .iconst 4, 1, 0, 0, 0, 4, []),
  (49, .bipush 10, 2, 0, 0, 0, 10, []),
  (51, .invokevirtual 127, 3, 141, 13, 924, 0, []),
  (54, .ireturn, 1, 0, 0, 0, 0, []),
  (55, .aload_n 0, 1, 0, 0, 0, 0, []),
  (56, .bipush 14, 2, 0, 0, 0, 14, []),
  (58, .bipush 40, 2, 0, 0, 0, 40, []),
  (60, .invokevirtual 127, 3, 141, 13, 924, 0, []),
  (63, .ireturn, 1, 0, 0, 0, 0, []),
  (64, .aload_n 0, 1, 0, 0, 0, 0, []),
  (65, .invokevirtual 130, 3, 142, 5, 928, 0, []),
  (68, .ireturn, 1, 0, 0, 0, 0, []),
  (69, .aload_n 0, 1, 0, 0, 0, 0, []),
  (70, .invokevirtual 134, 3, 143, 5, 932, 0, []),
  (73, .ireturn, 1, 0, 0, 0, 0, []),
  (74, .aload_n 0, 1, 0, 0, 0, 0, []),
  (75, .invokevirtual 137, 3, 144, 5, 936, 0, []),
  (78, .ireturn, 1, 0, 0, 0, 0, []),
  (79, .aload_n 0, 1, 0, 0, 0, 0, []),
  (80, .ldc 37, 2, 0, 0, 803, -1000001, []),
  (82, .invokevirtual 39, 3, 108, 9, 804, 0, []),
  (85, .ireturn, 1, 0, 0, 0, 0, [])]
def rm_X5_now : rv_M := (yX5_now, cX5_now, 2, some .int, 4, 2, 46, rc_X5_now)
def rc_X5_ahead : rv_C := [
  (0, .iload_n 1, 1, 0, 0, 0, 0, []),
  (1, .invokestatic 43, 3, 111, 5, 792, 0, []),
  (4, .ifCond .eq 27, 3, 0, 0, 0, 0, []),
  (7, .iload_n 2, 1, 0, 0, 0, 0, []),
  (8, .i2l, 1, 0, 0, 0, 0, []),
  (9, .lconst 0, 1, 0, 0, 0, 0, []),
  (10, .ldc2_w 140, 3, 0, 0, 944, 4, []),
  (13, .invokestatic 49, 3, 107, 13, 796, 0, []),
  (16, .ifCond .eq 15, 3, 0, 0, 0, 0, []),
  (19, .iload_n 3, 1, 0, 0, 0, 0, []),
  (20, .i2l, 1, 0, 0, 0, 0, []),
  (21, .lconst 0, 1, 0, 0, 0, 0, []),
  (22, .ldc2_w 142, 3, 0, 0, 945, 60, []),
  (25, .invokestatic 49, 3, 107, 13, 796, 0, []),
  (28, .ifCond .ne 10, 3, 0, 0, 0, 0, []),
  (31, .aload_n 0, 1, 0, 0, 0, 0, []),
  (32, .ldc 37, 2, 0, 0, 803, -1000001, []),
  (34, .invokevirtual 39, 3, 108, 9, 804, 0, []),
  (37, .ireturn, 1, 0, 0, 0, 0, []),
  (38, .aload_n 0, 1, 0, 0, 0, 0, []),
  (39, .getfield 7, 3, 4, 3, 739, 0, []),
  (42, .aload_n 0, 1, 0, 0, 0, 0, []),
  (43, .getfield 19, 3, 4, 33, 742, 0, []),
  (46, .invokestatic 144, 3, 110, 8, 946, 0, []),
  (49, .aload_n 0, 1, 0, 0, 0, 0, []),
  (50, .iload_n 3, 1, 0, 0, 0, 0, []),
  (51, .invokevirtual 123, 3, 139, 8, 908, 0, []),
  (54, .iload_n 2, 1, 0, 0, 0, 0, []),
  (55, .iconst 4, 1, 0, 0, 0, 4, []),
  (56, .if_icmp .ne 14, 3, 0, 0, 0, 0, []),
  (59, .aload_n 0, 1, 0, 0, 0, 0, []),
  (60, .getfield 7, 3, 4, 3, 739, 0, []),
  (63, .iconst 4, 1, 0, 0, 0, 4, []),
  (64, .iload_n 1, 1, 0, 0, 0, 0, []),
  (65, .iadd, 1, 0, 0, 0, 0, []),
  (66, .iaload, 1, 0, 0, 0, 0, []),
  (67, .goto 13, 3, 0, 0, 0, 0, []),
  (70, .aload_n 0, 1, 0, 0, 0, 0, []),
  (71, .getfield 7, 3, 4, 3, 739, 0, []),
  (74, .iload_n 1, 1, 0, 0, 0, 0, []),
  (75, .iload_n 2, 1, 0, 0, 0, 0, []),
  (76, .invokestatic 62, 3, 118, 9, 816, 0, []),
  (79, .iaload, 1, 0, 0, 0, 0, []),
  (80, .istore 4, 2, 0, 0, 0, 0, [1, 2, 3]),
  (82, .aload_n 0, 1, 0, 0, 0, 0, []),
  (83, .getfield 19, 3, 4, 33, 742, 0, []),
  (86, .aload_n 0, 1, 0, 0, 0, 0, []),
  (87, .getfield 7, 3, 4, 3, 739, 0, []),
  (90, .invokestatic 144, 3, 110, 8, 946, 0, []),
  (93, .iload 4, 2, 0, 0, 0, 0, []),
  (95, .ireturn, 1, 0, 0, 0, 0, [])]
def rm_X5_ahead : rv_M := (yX5_ahead, cX5_ahead, 5, some .int, 4, 5, 119, rc_X5_ahead)
def rc_X5_knownIn : rv_C := [
  (0, .aload_n 0, 1, 0, 0, 0, 0, []),
  (1, .getfield 7, 3, 4, 3, 739, 0, []),
  (4, .aload_n 0, 1, 0, 0, 0, 0, []),
  (5, .getfield 19, 3, 4, 33, 742, 0, []),
  (8, .invokestatic 144, 3, 110, 8, 946, 0, []),
  (11, .aload_n 0, 1, 0, 0, 0, 0, []),
  (12, .iload_n 2, 1, 0, 0, 0, 0, []),
  (13, .invokevirtual 123, 3, 139, 8, 908, 0, []),
  (16, .aload_n 0, 1, 0, 0, 0, 0, []),
  (17, .iload_n 1, 1, 0, 0, 0, 0, []),
  (18, .iconst 3, 1, 0, 0, 0, 3, []),
  (19, .invokevirtual 65, 3, 114, 13, 828, 0, []),
  (22, .istore_n 3, 1, 0, 0, 0, 0, []),
  (23, .aload_n 0, 1, 0, 0, 0, 0, []),
  (24, .getfield 19, 3, 4, 33, 742, 0, []),
  (27, .aload_n 0, 1, 0, 0, 0, 0, []),
  (28, .getfield 7, 3, 4, 3, 739, 0, []),
  (31, .invokestatic 144, 3, 110, 8, 946, 0, []),
  (34, .iload_n 3, 1, 0, 0, 0, 0, []),
  (35, .ireturn, 1, 0, 0, 0, 0, [])]
def rm_X5_knownIn : rv_M := (yX5_knownIn, cX5_knownIn, 4, some .int, 4, 5, 119, rc_X5_knownIn)
def rc_X5_knows : rv_C := [
  (0, .aload_n 0, 1, 0, 0, 0, 0, []),
  (1, .iload_n 1, 1, 0, 0, 0, 0, []),
  (2, .invokevirtual 90, 3, 113, 9, 861, 0, []),
  (5, .ifCond .eq 24, 3, 0, 0, 0, 0, []),
  (8, .iload_n 2, 1, 0, 0, 0, 0, []),
  (9, .i2l, 1, 0, 0, 0, 0, []),
  (10, .lconst 0, 1, 0, 0, 0, 0, []),
  (11, .ldc2_w 142, 3, 0, 0, 945, 60, []),
  (14, .invokestatic 49, 3, 107, 13, 796, 0, []),
  (17, .ifCond .eq 12, 3, 0, 0, 0, 0, []),
  (20, .aload_n 0, 1, 0, 0, 0, 0, []),
  (21, .iload_n 1, 1, 0, 0, 0, 0, []),
  (22, .iload_n 2, 1, 0, 0, 0, 0, []),
  (23, .invokevirtual 148, 3, 147, 13, 953, 0, []),
  (26, .goto 9, 3, 0, 0, 0, 0, []),
  (29, .aload_n 0, 1, 0, 0, 0, 0, []),
  (30, .ldc 37, 2, 0, 0, 803, -1000001, []),
  (32, .invokevirtual 39, 3, 108, 9, 804, 0, []),
  (35, .ireturn, 1, 0, 0, 0, 0, [])]
def rm_X5_knows : rv_M := (yX5_knows, cX5_knows, 3, some .int, 4, 6, 142, rc_X5_knows)
def rc_X5_soonest : rv_C := [
  (0, .aload_n 0, 1, 0, 0, 0, 0, []),
  (1, .getfield 7, 3, 4, 3, 739, 0, []),
  (4, .aload_n 0, 1, 0, 0, 0, 0, []),
  (5, .getfield 19, 3, 4, 33, 742, 0, []),
  (8, .invokestatic 144, 3, 110, 8, 946, 0, []),
  (11, .iconst 0, 1, 0, 0, 0, 0, []),
  (12, .istore_n 3, 1, 0, 0, 0, 0, []),
  (13, .iload_n 3, 1, 0, 0, 0, 0, []),
  (14, .bipush 60, 2, 0, 0, 0, 60, []),
  (16, .if_icmp .gt 27, 3, 0, 0, 0, 0, []),
  (19, .aload_n 0, 1, 0, 0, 0, 0, []),
  (20, .iload_n 1, 1, 0, 0, 0, 0, []),
  (21, .iconst 3, 1, 0, 0, 0, 3, []),
  (22, .invokevirtual 65, 3, 114, 13, 828, 0, []),
  (25, .iload_n 2, 1, 0, 0, 0, 0, []),
  (26, .ishr, 1, 0, 0, 0, 0, []),
  (27, .iconst 1, 1, 0, 0, 0, 1, []),
  (28, .iand, 1, 0, 0, 0, 0, []),
  (29, .ifCond .ne 14, 3, 0, 0, 0, 0, []),
  (32, .aload_n 0, 1, 0, 0, 0, 0, []),
  (33, .iconst 1, 1, 0, 0, 0, 1, []),
  (34, .invokevirtual 123, 3, 139, 8, 908, 0, []),
  (37, .iinc 3 1, 3, 0, 0, 0, 1, []),
  (40, .goto (-27), 3, 0, 0, 0, 0, []),
  (43, .aload_n 0, 1, 0, 0, 0, 0, [1, 2]),
  (44, .getfield 19, 3, 4, 33, 742, 0, []),
  (47, .aload_n 0, 1, 0, 0, 0, 0, []),
  (48, .getfield 7, 3, 4, 3, 739, 0, []),
  (51, .invokestatic 144, 3, 110, 8, 946, 0, []),
  (54, .iload_n 3, 1, 0, 0, 0, 0, []),
  (55, .bipush 60, 2, 0, 0, 0, 60, []),
  (57, .if_icmp .gt 7, 3, 0, 0, 0, 0, []),
  (60, .iload_n 3, 1, 0, 0, 0, 0, []),
  (61, .goto 4, 3, 0, 0, 0, 0, []),
  (64, .iconst (-1), 1, 0, 0, 0, -1, []),
  (65, .ireturn, 1, 0, 0, 0, 0, [])]
def rm_X5_soonest : rv_M := (yX5_soonest, cX5_soonest, 4, some .int, 4, 5, 119, rc_X5_soonest)
def rc_X5_when : rv_C := [
  (0, .aload_n 0, 1, 0, 0, 0, 0, []),
  (1, .iload_n 1, 1, 0, 0, 0, 0, []),
  (2, .invokevirtual 90, 3, 113, 9, 861, 0, []),
  (5, .ifCond .eq 23, 3, 0, 0, 0, 0, []),
  (8, .iload_n 2, 1, 0, 0, 0, 0, []),
  (9, .invokestatic 57, 3, 112, 5, 812, 0, []),
  (12, .ifCond .eq 16, 3, 0, 0, 0, 0, []),
  (15, .aload_n 0, 1, 0, 0, 0, 0, []),
  (16, .aload_n 0, 1, 0, 0, 0, 0, []),
  (17, .iload_n 1, 1, 0, 0, 0, 0, []),
  (18, .iload_n 2, 1, 0, 0, 0, 0, []),
  (19, .invokevirtual 151, 3, 149, 13, 961, 0, []),
  (22, .invokevirtual 154, 3, 115, 9, 965, 0, []),
  (25, .goto 9, 3, 0, 0, 0, 0, []),
  (28, .aload_n 0, 1, 0, 0, 0, 0, []),
  (29, .ldc 37, 2, 0, 0, 803, -1000001, []),
  (31, .invokevirtual 39, 3, 108, 9, 804, 0, []),
  (34, .ireturn, 1, 0, 0, 0, 0, [])]
def rm_X5_when : rv_M := (yX5_when, cX5_when, 3, some .int, 4, 6, 142, rc_X5_when)
def rc_X5_cold : rv_C := [
  (0, .iload_n 1, 1, 0, 0, 0, 0, []),
  (1, .invokestatic 43, 3, 111, 5, 792, 0, []),
  (4, .ifCond .eq 15, 3, 0, 0, 0, 0, []),
  (7, .iload_n 2, 1, 0, 0, 0, 0, []),
  (8, .i2l, 1, 0, 0, 0, 0, []),
  (9, .lconst 0, 1, 0, 0, 0, 0, []),
  (10, .ldc2_w 47, 3, 0, 0, 795, 99, []),
  (13, .invokestatic 49, 3, 107, 13, 796, 0, []),
  (16, .ifCond .ne 10, 3, 0, 0, 0, 0, []),
  (19, .aload_n 0, 1, 0, 0, 0, 0, []),
  (20, .ldc 37, 2, 0, 0, 803, -1000001, []),
  (22, .invokevirtual 39, 3, 108, 9, 804, 0, []),
  (25, .ireturn, 1, 0, 0, 0, 0, []),
  (26, .aload_n 0, 1, 0, 0, 0, 0, []),
  (27, .getfield 7, 3, 4, 3, 739, 0, []),
  (30, .aload_n 0, 1, 0, 0, 0, 0, []),
  (31, .getfield 19, 3, 4, 33, 742, 0, []),
  (34, .invokestatic 144, 3, 110, 8, 946, 0, []),
  (37, .iconst 0, 1, 0, 0, 0, 0, []),
  (38, .istore_n 3, 1, 0, 0, 0, 0, []),
  (39, .iload_n 3, 1, 0, 0, 0, 0, []),
  (40, .bipush 60, 2, 0, 0, 0, 60, []),
  (42, .if_icmp .gt 26, 3, 0, 0, 0, 0, []),
  (45, .aload_n 0, 1, 0, 0, 0, 0, []),
  (46, .getfield 7, 3, 4, 3, 739, 0, []),
  (49, .iconst 4, 1, 0, 0, 0, 4, []),
  (50, .iload_n 1, 1, 0, 0, 0, 0, []),
  (51, .iadd, 1, 0, 0, 0, 0, []),
  (52, .iaload, 1, 0, 0, 0, 0, []),
  (53, .iload_n 2, 1, 0, 0, 0, 0, []),
  (54, .if_icmp .lt 14, 3, 0, 0, 0, 0, []),
  (57, .aload_n 0, 1, 0, 0, 0, 0, []),
  (58, .iconst 1, 1, 0, 0, 0, 1, []),
  (59, .invokevirtual 123, 3, 139, 8, 908, 0, []),
  (62, .iinc 3 1, 3, 0, 0, 0, 1, []),
  (65, .goto (-26), 3, 0, 0, 0, 0, []),
  (68, .aload_n 0, 1, 0, 0, 0, 0, [1, 2]),
  (69, .getfield 19, 3, 4, 33, 742, 0, []),
  (72, .aload_n 0, 1, 0, 0, 0, 0, []),
  (73, .getfield 7, 3, 4, 3, 739, 0, []),
  (76, .invokestatic 144, 3, 110, 8, 946, 0, []),
  (79, .iload_n 3, 1, 0, 0, 0, 0, []),
  (80, .bipush 60, 2, 0, 0, 0, 60, []),
  (82, .if_icmp .gt 7, 3, 0, 0, 0, 0, []),
  (85, .iload_n 3, 1, 0, 0, 0, 0, []),
  (86, .goto 9, 3, 0, 0, 0, 0, []),
  (89, .aload_n 0, 1, 0, 0, 0, 0, []),
  (90, .ldc 38, 2, 0, 0, 969, -1000004, []),
  (92, .invokevirtual 39, 3, 108, 9, 804, 0, []),
  (95, .ireturn, 1, 0, 0, 0, 0, [])]
def rm_X5_cold : rv_M := (yX5_cold, cX5_cold, 4, some .int, 4, 5, 119, rc_X5_cold)
def rc_X5_leftOf : rv_C := [
  (0, .iload_n 0, 1, 0, 0, 0, 0, []),
  (1, .istore_n 2, 1, 0, 0, 0, 0, []),
  (2, .iconst 0, 1, 0, 0, 0, 0, []),
  (3, .istore_n 3, 1, 0, 0, 0, 0, []),
  (4, .iload_n 3, 1, 0, 0, 0, 0, [0]),
  (5, .iload_n 1, 1, 0, 0, 0, 0, []),
  (6, .if_icmp .ge 15, 3, 0, 0, 0, 0, []),
  (9, .iload_n 2, 1, 0, 0, 0, 0, []),
  (10, .iconst 3, 1, 0, 0, 0, 3, []),
  (11, .imul, 1, 0, 0, 0, 0, []),
  (12, .iconst 4, 1, 0, 0, 0, 4, []),
  (13, .idiv, 1, 0, 0, 0, 0, []),
  (14, .istore_n 2, 1, 0, 0, 0, 0, []),
  (15, .iinc 3 1, 3, 0, 0, 0, 1, []),
  (18, .goto (-14), 3, 0, 0, 0, 0, []),
  (21, .iload_n 2, 1, 0, 0, 0, 0, []),
  (22, .ireturn, 1, 0, 0, 0, 0, [])]
def rm_X5_leftOf : rv_M := (yX5_leftOf, cX5_leftOf, 4, some .int, 99, 0, 0, rc_X5_leftOf)
def rc_X5_left : rv_C := [
  (0, .iload_n 1, 1, 0, 0, 0, 0, []),
  (1, .i2l, 1, 0, 0, 0, 0, []),
  (2, .lconst 0, 1, 0, 0, 0, 0, []),
  (3, .ldc2_w 60, 3, 0, 0, 815, 9999, []),
  (6, .invokestatic 49, 3, 107, 13, 796, 0, []),
  (9, .ifCond .eq 23, 3, 0, 0, 0, 0, []),
  (12, .iload_n 2, 1, 0, 0, 0, 0, []),
  (13, .i2l, 1, 0, 0, 0, 0, []),
  (14, .lconst 0, 1, 0, 0, 0, 0, []),
  (15, .ldc2_w 157, 3, 0, 0, 978, 9, []),
  (18, .invokestatic 49, 3, 107, 13, 796, 0, []),
  (21, .ifCond .eq 11, 3, 0, 0, 0, 0, []),
  (24, .iload_n 1, 1, 0, 0, 0, 0, []),
  (25, .iload_n 2, 1, 0, 0, 0, 0, []),
  (26, .invokestatic 159, 3, 152, 9, 979, 0, []),
  (29, .goto 9, 3, 0, 0, 0, 0, []),
  (32, .aload_n 0, 1, 0, 0, 0, 0, []),
  (33, .ldc 37, 2, 0, 0, 803, -1000001, []),
  (35, .invokevirtual 39, 3, 108, 9, 804, 0, []),
  (38, .ireturn, 1, 0, 0, 0, 0, [])]
def rm_X5_left : rv_M := (yX5_left, cX5_left, 3, some .int, 4, 1, 25, rc_X5_left)
def rc_X5_needed : rv_C := [
  (0, .iload_n 1, 1, 0, 0, 0, 0, []),
  (1, .i2l, 1, 0, 0, 0, 0, []),
  (2, .lconst 0, 1, 0, 0, 0, 0, []),
  (3, .ldc2_w 162, 3, 0, 0, 986, 500, []),
  (6, .invokestatic 49, 3, 107, 13, 796, 0, []),
  (9, .ifCond .eq 15, 3, 0, 0, 0, 0, []),
  (12, .iload_n 2, 1, 0, 0, 0, 0, []),
  (13, .i2l, 1, 0, 0, 0, 0, []),
  (14, .lconst 0, 1, 0, 0, 0, 0, []),
  (15, .ldc2_w 157, 3, 0, 0, 978, 9, []),
  (18, .invokestatic 49, 3, 107, 13, 796, 0, []),
  (21, .ifCond .ne 10, 3, 0, 0, 0, 0, []),
  (24, .aload_n 0, 1, 0, 0, 0, 0, []),
  (25, .ldc 37, 2, 0, 0, 803, -1000001, []),
  (27, .invokevirtual 39, 3, 108, 9, 804, 0, []),
  (30, .ireturn, 1, 0, 0, 0, 0, []),
  (31, .iconst 0, 1, 0, 0, 0, 0, []),
  (32, .istore_n 3, 1, 0, 0, 0, 0, []),
  (33, .iload_n 3, 1, 0, 0, 0, 0, []),
  (34, .sipush 9999, 3, 0, 0, 0, 9999, []),
  (37, .if_icmp .gt 18, 3, 0, 0, 0, 0, []),
  (40, .iload_n 3, 1, 0, 0, 0, 0, []),
  (41, .iload_n 2, 1, 0, 0, 0, 0, []),
  (42, .invokestatic 159, 3, 152, 9, 979, 0, []),
  (45, .iload_n 1, 1, 0, 0, 0, 0, []),
  (46, .if_icmp .ge 9, 3, 0, 0, 0, 0, []),
  (49, .iinc 3 1, 3, 0, 0, 0, 1, []),
  (52, .goto (-19), 3, 0, 0, 0, 0, []),
  (55, .iload_n 3, 1, 0, 0, 0, 0, [1, 2]),
  (56, .sipush 9999, 3, 0, 0, 0, 9999, []),
  (59, .if_icmp .gt 7, 3, 0, 0, 0, 0, []),
  (62, .iload_n 3, 1, 0, 0, 0, 0, []),
  (63, .goto 9, 3, 0, 0, 0, 0, []),
  (66, .aload_n 0, 1, 0, 0, 0, 0, []),
  (67, .ldc 38, 2, 0, 0, 969, -1000004, []),
  (69, .invokevirtual 39, 3, 108, 9, 804, 0, []),
  (72, .ireturn, 1, 0, 0, 0, 0, [])]
def rm_X5_needed : rv_M := (yX5_needed, cX5_needed, 4, some .int, 4, 1, 25, rc_X5_needed)
def rc_X5_swapFor : rv_C := [
  (0, .aload_n 0, 1, 0, 0, 0, 0, []),
  (1, .iload_n 1, 1, 0, 0, 0, 0, []),
  (2, .invokevirtual 90, 3, 113, 9, 861, 0, []),
  (5, .ifCond .eq 15, 3, 0, 0, 0, 0, []),
  (8, .iload_n 2, 1, 0, 0, 0, 0, []),
  (9, .i2l, 1, 0, 0, 0, 0, []),
  (10, .lconst 0, 1, 0, 0, 0, 0, []),
  (11, .ldc2_w 119, 3, 0, 0, 905, 40, []),
  (14, .invokestatic 49, 3, 107, 13, 796, 0, []),
  (17, .ifCond .ne 10, 3, 0, 0, 0, 0, []),
  (20, .aload_n 0, 1, 0, 0, 0, 0, []),
  (21, .ldc 37, 2, 0, 0, 803, -1000001, []),
  (23, .invokevirtual 39, 3, 108, 9, 804, 0, []),
  (26, .ireturn, 1, 0, 0, 0, 0, []),
  (27, .iconst (-1), 1, 0, 0, 0, -1, []),
  (28, .istore_n 3, 1, 0, 0, 0, 0, []),
  (29, .iconst (-1), 1, 0, 0, 0, -1, []),
  (30, .istore 4, 2, 0, 0, 0, 0, []),
  (32, .iconst 0, 1, 0, 0, 0, 0, []),
  (33, .istore 5, 2, 0, 0, 0, 0, []),
  (35, .iload 5, 2, 0, 0, 0, 0, [7]),
  (37, .aload_n 0, 1, 0, 0, 0, 0, []),
  (38, .getfield 7, 3, 4, 3, 739, 0, []),
  (41, .iconst 0, 1, 0, 0, 0, 0, []),
  (42, .iaload, 1, 0, 0, 0, 0, []),
  (43, .if_icmp .ge 74, 3, 0, 0, 0, 0, []),
  (46, .iload 5, 2, 0, 0, 0, 0, []),
  (48, .iload_n 1, 1, 0, 0, 0, 0, []),
  (49, .if_icmp .eq 62, 3, 0, 0, 0, 0, []),
  (52, .aload_n 0, 1, 0, 0, 0, 0, []),
  (53, .iload_n 1, 1, 0, 0, 0, 0, []),
  (54, .iload 5, 2, 0, 0, 0, 0, []),
  (56, .invokevirtual 109, 3, 135, 13, 897, 0, []),
  (59, .istore 6, 2, 0, 0, 0, 0, []),
  (61, .aload_n 0, 1, 0, 0, 0, 0, []),
  (62, .iload_n 1, 1, 0, 0, 0, 0, []),
  (63, .iload_n 2, 1, 0, 0, 0, 0, []),
  (64, .invokevirtual 148, 3, 147, 13, 953, 0, []),
  (67, .invokestatic 84, 3, 116, 5, 870, 0, []),
  (70, .istore 7, 2, 0, 0, 0, 0, []),
  (72, .aload_n 0, 1, 0, 0, 0, 0, []),
  (73, .iload_n 1, 1, 0, 0, 0, 0, []),
  (74, .iload 5, 2, 0, 0, 0, 0, []),
  (76, .invokevirtual 109, 3, 135, 13, 897, 0, []),
  (79, .istore 6, 2, 0, 0, 0, 0, []),
  (81, .iload 7, 2, 0, 0, 0, 0, []),
  (83, .iload 4, 2, 0, 0, 0, 0, []),
  (85, .if_icmp .le 8, 3, 0, 0, 0, 0, []),
  (88, .iload 5, 2, 0, 0, 0, 0, []),
  (90, .goto 4, 3, 0, 0, 0, 0, []),
  (93, .iload_n 3, 1, 0, 0, 0, 0, []),
  (94, .istore_n 3, 1, 0, 0, 0, 0, [3, 6]),
  (95, .iload 7, 2, 0, 0, 0, 0, []),
  (97, .iload 4, 2, 0, 0, 0, 0, []),
  (99, .if_icmp .le 8, 3, 0, 0, 0, 0, []),
  (102, .iload 7, 2, 0, 0, 0, 0, []),
  (104, .goto 5, 3, 0, 0, 0, 0, []),
  (107, .iload 4, 2, 0, 0, 0, 0, []),
  (109, .istore 4, 2, 0, 0, 0, 0, []),
  (111, .iinc 5 1, 3, 0, 0, 0, 1, []),
  (114, .goto (-79), 3, 0, 0, 0, 0, []),
  (117, .aload_n 0, 1, 0, 0, 0, 0, []),
  (118, .iload_n 3, 1, 0, 0, 0, 0, []),
  (119, .invokevirtual 154, 3, 115, 9, 965, 0, []),
  (122, .ireturn, 1, 0, 0, 0, 0, [])]
def rm_X5_swapFor : rv_M := (yX5_swapFor, cX5_swapFor, 8, some .int, 4, 6, 142, rc_X5_swapFor)
def rc_X5_seat : rv_C := [
  (0, .aload_n 0, 1, 0, 0, 0, 0, []),
  (1, .iload_n 1, 1, 0, 0, 0, 0, []),
  (2, .invokevirtual 90, 3, 113, 9, 861, 0, []),
  (5, .ifCond .eq 10, 3, 0, 0, 0, 0, []),
  (8, .iload_n 2, 1, 0, 0, 0, 0, []),
  (9, .invokestatic 57, 3, 112, 5, 812, 0, []),
  (12, .ifCond .ne 10, 3, 0, 0, 0, 0, []),
  (15, .aload_n 0, 1, 0, 0, 0, 0, []),
  (16, .ldc 37, 2, 0, 0, 803, -1000001, []),
  (18, .invokevirtual 39, 3, 108, 9, 804, 0, []),
  (21, .ireturn, 1, 0, 0, 0, 0, []),
  (22, .bipush 54, 2, 0, 0, 0, 54, []),
  (24, .iconst 4, 1, 0, 0, 0, 4, []),
  (25, .iload_n 1, 1, 0, 0, 0, 0, []),
  (26, .imul, 1, 0, 0, 0, 0, []),
  (27, .iadd, 1, 0, 0, 0, 0, []),
  (28, .iconst 1, 1, 0, 0, 0, 1, []),
  (29, .iadd, 1, 0, 0, 0, 0, []),
  (30, .istore_n 3, 1, 0, 0, 0, 0, []),
  (31, .aload_n 0, 1, 0, 0, 0, 0, []),
  (32, .getfield 7, 3, 4, 3, 739, 0, []),
  (35, .iload_n 3, 1, 0, 0, 0, 0, []),
  (36, .iaload, 1, 0, 0, 0, 0, []),
  (37, .istore 4, 2, 0, 0, 0, 0, []),
  (39, .iconst (-1), 1, 0, 0, 0, -1, []),
  (40, .istore 5, 2, 0, 0, 0, 0, []),
  (42, .bipush 61, 2, 0, 0, 0, 61, []),
  (44, .istore 6, 2, 0, 0, 0, 0, []),
  (46, .iconst 0, 1, 0, 0, 0, 0, []),
  (47, .istore 7, 2, 0, 0, 0, 0, []),
  (49, .iload 7, 2, 0, 0, 0, 0, [8, 9]),
  (51, .bipush 10, 2, 0, 0, 0, 10, []),
  (53, .if_icmp .ge 72, 3, 0, 0, 0, 0, []),
  (56, .aload_n 0, 1, 0, 0, 0, 0, []),
  (57, .getfield 7, 3, 4, 3, 739, 0, []),
  (60, .iload_n 3, 1, 0, 0, 0, 0, []),
  (61, .iload 7, 2, 0, 0, 0, 0, []),
  (63, .iastore, 1, 0, 0, 0, 0, []),
  (64, .aload_n 0, 1, 0, 0, 0, 0, []),
  (65, .iload_n 1, 1, 0, 0, 0, 0, []),
  (66, .iload_n 2, 1, 0, 0, 0, 0, []),
  (67, .invokevirtual 151, 3, 149, 13, 961, 0, []),
  (70, .istore 8, 2, 0, 0, 0, 0, []),
  (72, .iload 8, 2, 0, 0, 0, 0, []),
  (74, .ifCond .lt 14, 3, 0, 0, 0, 0, []),
  (77, .iload 8, 2, 0, 0, 0, 0, []),
  (79, .iload 6, 2, 0, 0, 0, 0, []),
  (81, .if_icmp .ge 7, 3, 0, 0, 0, 0, []),
  (84, .iconst 1, 1, 0, 0, 0, 1, []),
  (85, .goto 4, 3, 0, 0, 0, 0, []),
  (88, .iconst 0, 1, 0, 0, 0, 0, []),
  (89, .istore 9, 2, 0, 0, 0, 0, []),
  (91, .iload 9, 2, 0, 0, 0, 0, []),
  (93, .ifCond .eq 8, 3, 0, 0, 0, 0, []),
  (96, .iload 7, 2, 0, 0, 0, 0, []),
  (98, .goto 5, 3, 0, 0, 0, 0, []),
  (101, .iload 5, 2, 0, 0, 0, 0, []),
  (103, .istore 5, 2, 0, 0, 0, 0, [5]),
  (105, .iload 9, 2, 0, 0, 0, 0, []),
  (107, .ifCond .eq 8, 3, 0, 0, 0, 0, []),
  (110, .iload 8, 2, 0, 0, 0, 0, []),
  (112, .goto 5, 3, 0, 0, 0, 0, []),
  (115, .iload 6, 2, 0, 0, 0, 0, []),
  (117, .istore 6, 2, 0, 0, 0, 0, []),
  (119, .iinc 7 1, 3, 0, 0, 0, 1, []),
  (122, .goto (-73), 3, 0, 0, 0, 0, []),
  (125, .aload_n 0, 1, 0, 0, 0, 0, []),
  (126, .getfield 7, 3, 4, 3, 739, 0, []),
  (129, .iload_n 3, 1, 0, 0, 0, 0, []),
  (130, .iload 4, 2, 0, 0, 0, 0, []),
  (132, .iastore, 1, 0, 0, 0, 0, []),
  (133, .aload_n 0, 1, 0, 0, 0, 0, []),
  (134, .iload 5, 2, 0, 0, 0, 0, []),
  (136, .invokevirtual 154, 3, 115, 9, 965, 0, []),
  (139, .ireturn, 1, 0, 0, 0, 0, [])]
def rm_X5_seat : rv_M := (yX5_seat, cX5_seat, 10, some .int, 4, 6, 142, rc_X5_seat)
def rc_X5_kindFor : rv_C := [
  (0, .aload_n 0, 1, 0, 0, 0, 0, []),
  (1, .iload_n 1, 1, 0, 0, 0, 0, []),
  (2, .invokevirtual 90, 3, 113, 9, 861, 0, []),
  (5, .ifCond .eq 15, 3, 0, 0, 0, 0, []),
  (8, .iload_n 2, 1, 0, 0, 0, 0, []),
  (9, .i2l, 1, 0, 0, 0, 0, []),
  (10, .lconst 0, 1, 0, 0, 0, 0, []),
  (11, .ldc2_w 119, 3, 0, 0, 905, 40, []),
  (14, .invokestatic 49, 3, 107, 13, 796, 0, []),
  (17, .ifCond .ne 10, 3, 0, 0, 0, 0, []),
  (20, .aload_n 0, 1, 0, 0, 0, 0, []),
  (21, .ldc 37, 2, 0, 0, 803, -1000001, []),
  (23, .invokevirtual 39, 3, 108, 9, 804, 0, []),
  (26, .ireturn, 1, 0, 0, 0, 0, []),
  (27, .bipush 54, 2, 0, 0, 0, 54, []),
  (29, .iconst 4, 1, 0, 0, 0, 4, []),
  (30, .iload_n 1, 1, 0, 0, 0, 0, []),
  (31, .imul, 1, 0, 0, 0, 0, []),
  (32, .iadd, 1, 0, 0, 0, 0, []),
  (33, .istore_n 3, 1, 0, 0, 0, 0, []),
  (34, .aload_n 0, 1, 0, 0, 0, 0, []),
  (35, .getfield 7, 3, 4, 3, 739, 0, []),
  (38, .iload_n 3, 1, 0, 0, 0, 0, []),
  (39, .iaload, 1, 0, 0, 0, 0, []),
  (40, .istore 4, 2, 0, 0, 0, 0, []),
  (42, .iconst 0, 1, 0, 0, 0, 0, []),
  (43, .istore 5, 2, 0, 0, 0, 0, []),
  (45, .iconst (-1), 1, 0, 0, 0, -1, []),
  (46, .istore 6, 2, 0, 0, 0, 0, []),
  (48, .iconst 0, 1, 0, 0, 0, 0, []),
  (49, .istore 7, 2, 0, 0, 0, 0, []),
  (51, .iload 7, 2, 0, 0, 0, 0, [8]),
  (53, .bipush 6, 2, 0, 0, 0, 6, []),
  (55, .if_icmp .gt 60, 3, 0, 0, 0, 0, []),
  (58, .aload_n 0, 1, 0, 0, 0, 0, []),
  (59, .getfield 7, 3, 4, 3, 739, 0, []),
  (62, .iload_n 3, 1, 0, 0, 0, 0, []),
  (63, .iload 7, 2, 0, 0, 0, 0, []),
  (65, .iastore, 1, 0, 0, 0, 0, []),
  (66, .aload_n 0, 1, 0, 0, 0, 0, []),
  (67, .iload_n 1, 1, 0, 0, 0, 0, []),
  (68, .iload_n 2, 1, 0, 0, 0, 0, []),
  (69, .invokevirtual 148, 3, 147, 13, 953, 0, []),
  (72, .invokestatic 84, 3, 116, 5, 870, 0, []),
  (75, .istore 8, 2, 0, 0, 0, 0, []),
  (77, .iload 8, 2, 0, 0, 0, 0, []),
  (79, .iload 6, 2, 0, 0, 0, 0, []),
  (81, .if_icmp .le 8, 3, 0, 0, 0, 0, []),
  (84, .iload 7, 2, 0, 0, 0, 0, []),
  (86, .goto 5, 3, 0, 0, 0, 0, []),
  (89, .iload 5, 2, 0, 0, 0, 0, []),
  (91, .istore 5, 2, 0, 0, 0, 0, [5]),
  (93, .iload 8, 2, 0, 0, 0, 0, []),
  (95, .iload 6, 2, 0, 0, 0, 0, []),
  (97, .if_icmp .le 8, 3, 0, 0, 0, 0, []),
  (100, .iload 8, 2, 0, 0, 0, 0, []),
  (102, .goto 5, 3, 0, 0, 0, 0, []),
  (105, .iload 6, 2, 0, 0, 0, 0, []),
  (107, .istore 6, 2, 0, 0, 0, 0, []),
  (109, .iinc 7 1, 3, 0, 0, 0, 1, []),
  (112, .goto (-61), 3, 0, 0, 0, 0, []),
  (115, .aload_n 0, 1, 0, 0, 0, 0, []),
  (116, .getfield 7, 3, 4, 3, 739, 0, []),
  (119, .iload_n 3, 1, 0, 0, 0, 0, []),
  (120, .iload 4, 2, 0, 0, 0, 0, []),
  (122, .iastore, 1, 0, 0, 0, 0, []),
  (123, .iload 5, 2, 0, 0, 0, 0, []),
  (125, .ireturn, 1, 0, 0, 0, 0, [])]
def rm_X5_kindFor : rv_M := (yX5_kindFor, cX5_kindFor, 9, some .int, 4, 6, 142, rc_X5_kindFor)
def rc_X5_coldest : rv_C := [
  (0, .aload_n 0, 1, 0, 0, 0, 0, []),
  (1, .getfield 7, 3, 4, 3, 739, 0, []),
  (4, .iconst 4, 1, 0, 0, 0, 4, []),
  (5, .iaload, 1, 0, 0, 0, 0, []),
  (6, .istore_n 1, 1, 0, 0, 0, 0, []),
  (7, .iconst 1, 1, 0, 0, 0, 1, []),
  (8, .istore_n 2, 1, 0, 0, 0, 0, []),
  (9, .iload_n 2, 1, 0, 0, 0, 0, []),
  (10, .bipush 10, 2, 0, 0, 0, 10, []),
  (12, .if_icmp .ge 34, 3, 0, 0, 0, 0, []),
  (15, .aload_n 0, 1, 0, 0, 0, 0, []),
  (16, .getfield 7, 3, 4, 3, 739, 0, []),
  (19, .iconst 4, 1, 0, 0, 0, 4, []),
  (20, .iload_n 2, 1, 0, 0, 0, 0, []),
  (21, .iadd, 1, 0, 0, 0, 0, []),
  (22, .iaload, 1, 0, 0, 0, 0, []),
  (23, .iload_n 1, 1, 0, 0, 0, 0, []),
  (24, .if_icmp .ge 14, 3, 0, 0, 0, 0, []),
  (27, .aload_n 0, 1, 0, 0, 0, 0, []),
  (28, .getfield 7, 3, 4, 3, 739, 0, []),
  (31, .iconst 4, 1, 0, 0, 0, 4, []),
  (32, .iload_n 2, 1, 0, 0, 0, 0, []),
  (33, .iadd, 1, 0, 0, 0, 0, []),
  (34, .iaload, 1, 0, 0, 0, 0, []),
  (35, .goto 4, 3, 0, 0, 0, 0, []),
  (38, .iload_n 1, 1, 0, 0, 0, 0, []),
  (39, .istore_n 1, 1, 0, 0, 0, 0, []),
  (40, .iinc 2 1, 3, 0, 0, 0, 1, []),
  (43, .goto (-34), 3, 0, 0, 0, 0, []),
  (46, .iload_n 1, 1, 0, 0, 0, 0, []),
  (47, .ireturn, 1, 0, 0, 0, 0, [])]
def rm_X5_coldest : rv_M := (yX5_coldest, cX5_coldest, 3, some .int, 4, 0, 0, rc_X5_coldest)
def rc_X5_freshFor : rv_C := [
  (0, .iload_n 1, 1, 0, 0, 0, 0, []),
  (1, .i2l, 1, 0, 0, 0, 0, []),
  (2, .lconst 0, 1, 0, 0, 0, 0, []),
  (3, .ldc2_w 47, 3, 0, 0, 795, 99, []),
  (6, .invokestatic 49, 3, 107, 13, 796, 0, []),
  (9, .ifCond .eq 15, 3, 0, 0, 0, 0, []),
  (12, .iload_n 2, 1, 0, 0, 0, 0, []),
  (13, .i2l, 1, 0, 0, 0, 0, []),
  (14, .lconst 0, 1, 0, 0, 0, 0, []),
  (15, .ldc2_w 119, 3, 0, 0, 905, 40, []),
  (18, .invokestatic 49, 3, 107, 13, 796, 0, []),
  (21, .ifCond .ne 10, 3, 0, 0, 0, 0, []),
  (24, .aload_n 0, 1, 0, 0, 0, 0, []),
  (25, .ldc 37, 2, 0, 0, 803, -1000001, []),
  (27, .invokevirtual 39, 3, 108, 9, 804, 0, []),
  (30, .ireturn, 1, 0, 0, 0, 0, []),
  (31, .iconst (-1), 1, 0, 0, 0, -1, []),
  (32, .istore_n 3, 1, 0, 0, 0, 0, []),
  (33, .iconst 0, 1, 0, 0, 0, 0, []),
  (34, .istore 4, 2, 0, 0, 0, 0, []),
  (36, .iload 4, 2, 0, 0, 0, 0, []),
  (38, .bipush 99, 2, 0, 0, 0, 99, []),
  (40, .if_icmp .gt 63, 3, 0, 0, 0, 0, []),
  (43, .iload_n 3, 1, 0, 0, 0, 0, []),
  (44, .ifCond .ge 59, 3, 0, 0, 0, 0, []),
  (47, .aload_n 0, 1, 0, 0, 0, 0, []),
  (48, .getfield 7, 3, 4, 3, 739, 0, []),
  (51, .aload_n 0, 1, 0, 0, 0, 0, []),
  (52, .getfield 19, 3, 4, 33, 742, 0, []),
  (55, .invokestatic 144, 3, 110, 8, 946, 0, []),
  (58, .aload_n 0, 1, 0, 0, 0, 0, []),
  (59, .getfield 7, 3, 4, 3, 739, 0, []),
  (62, .iconst 2, 1, 0, 0, 0, 2, []),
  (63, .iload 4, 2, 0, 0, 0, 0, []),
  (65, .iastore, 1, 0, 0, 0, 0, []),
  (66, .aload_n 0, 1, 0, 0, 0, 0, []),
  (67, .iload_n 2, 1, 0, 0, 0, 0, []),
  (68, .invokevirtual 123, 3, 139, 8, 908, 0, []),
  (71, .aload_n 0, 1, 0, 0, 0, 0, []),
  (72, .invokevirtual 164, 3, 158, 5, 1003, 0, []),
  (75, .iload_n 1, 1, 0, 0, 0, 0, []),
  (76, .if_icmp .lt 8, 3, 0, 0, 0, 0, []),
  (79, .iload 4, 2, 0, 0, 0, 0, []),
  (81, .goto 4, 3, 0, 0, 0, 0, []),
  (84, .iconst (-1), 1, 0, 0, 0, -1, []),
  (85, .istore_n 3, 1, 0, 0, 0, 0, [3]),
  (86, .aload_n 0, 1, 0, 0, 0, 0, []),
  (87, .getfield 19, 3, 4, 33, 742, 0, []),
  (90, .aload_n 0, 1, 0, 0, 0, 0, []),
  (91, .getfield 7, 3, 4, 3, 739, 0, []),
  (94, .invokestatic 144, 3, 110, 8, 946, 0, []),
  (97, .iinc 4 1, 3, 0, 0, 0, 1, []),
  (100, .goto (-64), 3, 0, 0, 0, 0, []),
  (103, .aload_n 0, 1, 0, 0, 0, 0, []),
  (104, .iload_n 3, 1, 0, 0, 0, 0, []),
  (105, .invokevirtual 154, 3, 115, 9, 965, 0, []),
  (108, .ireturn, 1, 0, 0, 0, 0, [])]
def rm_X5_freshFor : rv_M := (yX5_freshFor, cX5_freshFor, 5, some .int, 4, 5, 119, rc_X5_freshFor)
def rc_X5_isHidden : rv_C := [
  (0, .aload_n 0, 1, 0, 0, 0, 0, []),
  (1, .getfield 7, 3, 4, 3, 739, 0, []),
  (4, .aload_n 0, 1, 0, 0, 0, 0, []),
  (5, .getfield 19, 3, 4, 33, 742, 0, []),
  (8, .invokestatic 144, 3, 110, 8, 946, 0, []),
  (11, .lconst 0, 1, 0, 0, 0, 0, []),
  (12, .lstore 4, 2, 0, 0, 0, 0, []),
  (14, .iconst 1, 1, 0, 0, 0, 1, []),
  (15, .istore 6, 2, 0, 0, 0, 0, []),
  (17, .iconst 0, 1, 0, 0, 0, 0, []),
  (18, .istore 7, 2, 0, 0, 0, 0, []),
  (20, .iload 7, 2, 0, 0, 0, 0, [4, 8]),
  (22, .iload_n 2, 1, 0, 0, 0, 0, []),
  (23, .if_icmp .ge 63, 3, 0, 0, 0, 0, []),
  (26, .iload 6, 2, 0, 0, 0, 0, []),
  (28, .ifCond .eq 58, 3, 0, 0, 0, 0, []),
  (31, .aload_n 0, 1, 0, 0, 0, 0, []),
  (32, .iload_n 3, 1, 0, 0, 0, 0, []),
  (33, .invokevirtual 115, 3, 138, 10, 912, 0, []),
  (36, .lstore 4, 2, 0, 0, 0, 0, []),
  (38, .iconst 0, 1, 0, 0, 0, 0, []),
  (39, .istore 8, 2, 0, 0, 0, 0, []),
  (41, .iload 8, 2, 0, 0, 0, 0, []),
  (43, .bipush 8, 2, 0, 0, 0, 8, []),
  (45, .if_icmp .ge 35, 3, 0, 0, 0, 0, []),
  (48, .iload 6, 2, 0, 0, 0, 0, []),
  (50, .lload 4, 2, 0, 0, 0, 0, []),
  (52, .iconst 4, 1, 0, 0, 0, 4, []),
  (53, .iload 8, 2, 0, 0, 0, 0, []),
  (55, .imul, 1, 0, 0, 0, 0, []),
  (56, .iload_n 1, 1, 0, 0, 0, 0, []),
  (57, .iadd, 1, 0, 0, 0, 0, []),
  (58, .lshr, 1, 0, 0, 0, 0, []),
  (59, .lconst 1, 1, 0, 0, 0, 1, []),
  (60, .land, 1, 0, 0, 0, 0, []),
  (61, .lconst 0, 1, 0, 0, 0, 0, []),
  (62, .lcmp, 1, 0, 0, 0, 0, []),
  (63, .ifCond .ne 7, 3, 0, 0, 0, 0, []),
  (66, .iconst 1, 1, 0, 0, 0, 1, []),
  (67, .goto 4, 3, 0, 0, 0, 0, []),
  (70, .iconst 0, 1, 0, 0, 0, 0, []),
  (71, .iand, 1, 0, 0, 0, 0, []),
  (72, .istore 6, 2, 0, 0, 0, 0, []),
  (74, .iinc 8 1, 3, 0, 0, 0, 1, []),
  (77, .goto (-36), 3, 0, 0, 0, 0, []),
  (80, .iinc 7 1, 3, 0, 0, 0, 1, []),
  (83, .goto (-63), 3, 0, 0, 0, 0, []),
  (86, .aload_n 0, 1, 0, 0, 0, 0, []),
  (87, .getfield 19, 3, 4, 33, 742, 0, []),
  (90, .aload_n 0, 1, 0, 0, 0, 0, []),
  (91, .getfield 7, 3, 4, 3, 739, 0, []),
  (94, .invokestatic 144, 3, 110, 8, 946, 0, []),
  (97, .iload 6, 2, 0, 0, 0, 0, []),
  (99, .ireturn, 1, 1, 0, 0, 0, [])]
def rm_X5_isHidden : rv_M := (yX5_isHidden, cX5_isHidden, 9, some .boolean, 4, 4, 95, rc_X5_isHidden)
def rc_X5_hides : rv_C := [
  (0, .iload_n 1, 1, 0, 0, 0, 0, []),
  (1, .invokestatic 43, 3, 111, 5, 792, 0, []),
  (4, .ifCond .eq 35, 3, 0, 0, 0, 0, []),
  (7, .iload_n 2, 1, 0, 0, 0, 0, []),
  (8, .invokestatic 57, 3, 112, 5, 812, 0, []),
  (11, .ifCond .eq 28, 3, 0, 0, 0, 0, []),
  (14, .iload_n 3, 1, 0, 0, 0, 0, []),
  (15, .invokestatic 57, 3, 112, 5, 812, 0, []),
  (18, .ifCond .eq 21, 3, 0, 0, 0, 0, []),
  (21, .iload_n 2, 1, 0, 0, 0, 0, []),
  (22, .iload_n 3, 1, 0, 0, 0, 0, []),
  (23, .if_icmp .eq 16, 3, 0, 0, 0, 0, []),
  (26, .iload 4, 2, 0, 0, 0, 0, []),
  (28, .i2l, 1, 0, 0, 0, 0, []),
  (29, .lconst 0, 1, 0, 0, 0, 0, []),
  (30, .ldc2_w 167, 3, 0, 0, 1011, 20, []),
  (33, .invokestatic 49, 3, 107, 13, 796, 0, []),
  (36, .ifCond .ne 10, 3, 0, 0, 0, 0, []),
  (39, .aload_n 0, 1, 0, 0, 0, 0, []),
  (40, .ldc 37, 2, 0, 0, 803, -1000001, []),
  (42, .invokevirtual 39, 3, 108, 9, 804, 0, []),
  (45, .ireturn, 1, 0, 0, 0, 0, []),
  (46, .iload_n 1, 1, 0, 0, 0, 0, []),
  (47, .iload_n 2, 1, 0, 0, 0, 0, []),
  (48, .invokestatic 62, 3, 118, 9, 816, 0, []),
  (51, .istore 5, 2, 0, 0, 0, 0, []),
  (53, .aload_n 0, 1, 0, 0, 0, 0, []),
  (54, .getfield 7, 3, 4, 3, 739, 0, []),
  (57, .iload 5, 2, 0, 0, 0, 0, []),
  (59, .iaload, 1, 0, 0, 0, 0, []),
  (60, .istore 6, 2, 0, 0, 0, 0, []),
  (62, .aload_n 0, 1, 0, 0, 0, 0, [1, 2]),
  (63, .getfield 7, 3, 4, 3, 739, 0, []),
  (66, .iload 5, 2, 0, 0, 0, 0, []),
  (68, .iaload, 1, 0, 0, 0, 0, []),
  (69, .sipush 9999, 3, 0, 0, 0, 9999, []),
  (72, .if_icmp .gt 29, 3, 0, 0, 0, 0, []),
  (75, .aload_n 0, 1, 0, 0, 0, 0, []),
  (76, .iload_n 3, 1, 0, 0, 0, 0, []),
  (77, .iload 4, 2, 0, 0, 0, 0, []),
  (79, .iconst 0, 1, 0, 0, 0, 0, []),
  (80, .invokevirtual 169, 3, 160, 17, 1012, 0, []),
  (83, .ifCond .ne 18, 3, 0, 0, 0, 0, []),
  (86, .aload_n 0, 1, 0, 0, 0, 0, []),
  (87, .getfield 7, 3, 4, 3, 739, 0, []),
  (90, .iload 5, 2, 0, 0, 0, 0, []),
  (92, .dup2, 1, 0, 0, 0, 0, []),
  (93, .iaload, 1, 0, 0, 0, 0, []),
  (94, .bipush 10, 2, 0, 0, 0, 10, []),
  (96, .iadd, 1, 0, 0, 0, 0, []),
  (97, .iastore, 1, 0, 0, 0, 0, []),
  (98, .goto (-36), 3, 0, 0, 0, 0, []),
  (101, .aload_n 0, 1, 0, 0, 0, 0, [3, 4]),
  (102, .getfield 7, 3, 4, 3, 739, 0, []),
  (105, .iload 5, 2, 0, 0, 0, 0, []),
  (107, .iaload, 1, 0, 0, 0, 0, []),
  (108, .iload 6, 2, 0, 0, 0, 0, []),
  (110, .isub, 1, 0, 0, 0, 0, []),
  (111, .istore 7, 2, 0, 0, 0, 0, []),
  (113, .aload_n 0, 1, 0, 0, 0, 0, []),
  (114, .getfield 7, 3, 4, 3, 739, 0, []),
  (117, .iload 5, 2, 0, 0, 0, 0, []),
  (119, .iaload, 1, 0, 0, 0, 0, []),
  (120, .sipush 9999, 3, 0, 0, 0, 9999, []),
  (123, .if_icmp .gt 7, 3, 0, 0, 0, 0, []),
  (126, .iconst 1, 1, 0, 0, 0, 1, []),
  (127, .goto 4, 3, 0, 0, 0, 0, []),
  (130, .iconst 0, 1, 0, 0, 0, 0, []),
  (131, .istore 8, 2, 0, 0, 0, 0, []),
  (133, .aload_n 0, 1, 0, 0, 0, 0, []),
  (134, .getfield 7, 3, 4, 3, 739, 0, []),
  (137, .iload 5, 2, 0, 0, 0, 0, []),
  (139, .iload 6, 2, 0, 0, 0, 0, []),
  (141, .iastore, 1, 0, 0, 0, 0, []),
  (142, .iload 8, 2, 0, 0, 0, 0, []),
  (144, .ifCond .eq 8, 3, 0, 0, 0, 0, []),
  (147, .iload 7, 2, 0, 0, 0, 0, []),
  (149, .goto 9, 3, 0, 0, 0, 0, []),
  (152, .aload_n 0, 1, 0, 0, 0, 0, []),
  (153, .ldc 38, 2, 0, 0, 969, -1000004, []),
  (155, .invokevirtual 39, 3, 108, 9, 804, 0, []),
  (158, .ireturn, 1, 0, 0, 0, 0, [])]
def rm_X5_hides : rv_M := (yX5_hides, cX5_hides, 9, some .int, 4, 5, 123, rc_X5_hides)
def rc_X5_leave : rv_C := [
  (0, .iload_n 1, 1, 0, 0, 0, 0, []),
  (1, .invokestatic 57, 3, 112, 5, 812, 0, []),
  (4, .ifCond .eq 15, 3, 0, 0, 0, 0, []),
  (7, .iload_n 2, 1, 0, 0, 0, 0, []),
  (8, .i2l, 1, 0, 0, 0, 0, []),
  (9, .lconst 0, 1, 0, 0, 0, 0, []),
  (10, .ldc2_w 167, 3, 0, 0, 1011, 20, []),
  (13, .invokestatic 49, 3, 107, 13, 796, 0, []),
  (16, .ifCond .ne 10, 3, 0, 0, 0, 0, []),
  (19, .aload_n 0, 1, 0, 0, 0, 0, []),
  (20, .ldc 37, 2, 0, 0, 803, -1000001, []),
  (22, .invokevirtual 39, 3, 108, 9, 804, 0, []),
  (25, .ireturn, 1, 0, 0, 0, 0, []),
  (26, .iconst (-1), 1, 0, 0, 0, -1, []),
  (27, .istore_n 3, 1, 0, 0, 0, 0, []),
  (28, .iconst 0, 1, 0, 0, 0, 0, []),
  (29, .istore 4, 2, 0, 0, 0, 0, []),
  (31, .iload 4, 2, 0, 0, 0, 0, []),
  (33, .iconst 1, 1, 0, 0, 0, 1, []),
  (34, .aload_n 0, 1, 0, 0, 0, 0, []),
  (35, .getfield 7, 3, 4, 3, 739, 0, []),
  (38, .iconst 0, 1, 0, 0, 0, 0, []),
  (39, .iaload, 1, 0, 0, 0, 0, []),
  (40, .ishl, 1, 0, 0, 0, 0, []),
  (41, .if_icmp .ge 43, 3, 0, 0, 0, 0, []),
  (44, .iload_n 3, 1, 0, 0, 0, 0, []),
  (45, .ifCond .lt 15, 3, 0, 0, 0, 0, []),
  (48, .iload 4, 2, 0, 0, 0, 0, []),
  (50, .invokestatic 84, 3, 116, 5, 870, 0, []),
  (53, .iload_n 3, 1, 0, 0, 0, 0, []),
  (54, .invokestatic 84, 3, 116, 5, 870, 0, []),
  (57, .if_icmp .ge 19, 3, 0, 0, 0, 0, []),
  (60, .aload_n 0, 1, 0, 0, 0, 0, []),
  (61, .iload_n 1, 1, 0, 0, 0, 0, []),
  (62, .iload_n 2, 1, 0, 0, 0, 0, []),
  (63, .iload 4, 2, 0, 0, 0, 0, []),
  (65, .invokevirtual 169, 3, 160, 17, 1012, 0, []),
  (68, .ifCond .eq 8, 3, 0, 0, 0, 0, []),
  (71, .iload 4, 2, 0, 0, 0, 0, []),
  (73, .goto 4, 3, 0, 0, 0, 0, []),
  (76, .iload_n 3, 1, 0, 0, 0, 0, []),
  (77, .istore_n 3, 1, 0, 0, 0, 0, []),
  (78, .iinc 4 1, 3, 0, 0, 0, 1, []),
  (81, .goto (-50), 3, 0, 0, 0, 0, []),
  (84, .iload_n 3, 1, 0, 0, 0, 0, []),
  (85, .ireturn, 1, 0, 0, 0, 0, [])]
def rm_X5_leave : rv_M := (yX5_leave, cX5_leave, 5, some .int, 4, 5, 123, rc_X5_leave)
def rc_X5_plugFor : rv_C := [
  (0, .iload_n 1, 1, 0, 0, 0, 0, []),
  (1, .invokestatic 57, 3, 112, 5, 812, 0, []),
  (4, .ifCond .eq 15, 3, 0, 0, 0, 0, []),
  (7, .iload_n 2, 1, 0, 0, 0, 0, []),
  (8, .i2l, 1, 0, 0, 0, 0, []),
  (9, .lconst 0, 1, 0, 0, 0, 0, []),
  (10, .ldc2_w 119, 3, 0, 0, 905, 40, []),
  (13, .invokestatic 49, 3, 107, 13, 796, 0, []),
  (16, .ifCond .ne 10, 3, 0, 0, 0, 0, []),
  (19, .aload_n 0, 1, 0, 0, 0, 0, []),
  (20, .ldc 37, 2, 0, 0, 803, -1000001, []),
  (22, .invokevirtual 39, 3, 108, 9, 804, 0, []),
  (25, .ireturn, 1, 0, 0, 0, 0, []),
  (26, .iconst 0, 1, 0, 0, 0, 0, []),
  (27, .istore_n 3, 1, 0, 0, 0, 0, []),
  (28, .bipush 9, 2, 0, 0, 0, 9, []),
  (30, .istore 4, 2, 0, 0, 0, 0, []),
  (32, .iconst 0, 1, 0, 0, 0, 0, []),
  (33, .istore 5, 2, 0, 0, 0, 0, []),
  (35, .iload 5, 2, 0, 0, 0, 0, [7]),
  (37, .bipush 10, 2, 0, 0, 0, 10, []),
  (39, .if_icmp .ge 113, 3, 0, 0, 0, 0, []),
  (42, .aload_n 0, 1, 0, 0, 0, 0, []),
  (43, .getfield 7, 3, 4, 3, 739, 0, []),
  (46, .aload_n 0, 1, 0, 0, 0, 0, []),
  (47, .getfield 19, 3, 4, 33, 742, 0, []),
  (50, .invokestatic 144, 3, 110, 8, 946, 0, []),
  (53, .aload_n 0, 1, 0, 0, 0, 0, []),
  (54, .iload 5, 2, 0, 0, 0, 0, []),
  (56, .invokevirtual 76, 3, 124, 9, 844, 0, []),
  (59, .istore 6, 2, 0, 0, 0, 0, []),
  (61, .aload_n 0, 1, 0, 0, 0, 0, []),
  (62, .iload_n 2, 1, 0, 0, 0, 0, []),
  (63, .invokevirtual 123, 3, 139, 8, 908, 0, []),
  (66, .iconst 0, 1, 0, 0, 0, 0, []),
  (67, .istore 7, 2, 0, 0, 0, 0, []),
  (69, .iconst 0, 1, 0, 0, 0, 0, []),
  (70, .istore 8, 2, 0, 0, 0, 0, []),
  (72, .iload 8, 2, 0, 0, 0, 0, [6]),
  (74, .aload_n 0, 1, 0, 0, 0, 0, []),
  (75, .getfield 7, 3, 4, 3, 739, 0, []),
  (78, .iconst 0, 1, 0, 0, 0, 0, []),
  (79, .iaload, 1, 0, 0, 0, 0, []),
  (80, .if_icmp .ge 25, 3, 0, 0, 0, 0, []),
  (83, .iload 7, 2, 0, 0, 0, 0, []),
  (85, .aload_n 0, 1, 0, 0, 0, 0, []),
  (86, .iload 8, 2, 0, 0, 0, 0, []),
  (88, .iconst 3, 1, 0, 0, 0, 3, []),
  (89, .invokevirtual 65, 3, 114, 13, 828, 0, []),
  (92, .iload_n 1, 1, 0, 0, 0, 0, []),
  (93, .ishr, 1, 0, 0, 0, 0, []),
  (94, .iconst 1, 1, 0, 0, 0, 1, []),
  (95, .iand, 1, 0, 0, 0, 0, []),
  (96, .iadd, 1, 0, 0, 0, 0, []),
  (97, .istore 7, 2, 0, 0, 0, 0, []),
  (99, .iinc 8 1, 3, 0, 0, 0, 1, []),
  (102, .goto (-30), 3, 0, 0, 0, 0, []),
  (105, .aload_n 0, 1, 0, 0, 0, 0, []),
  (106, .getfield 19, 3, 4, 33, 742, 0, []),
  (109, .aload_n 0, 1, 0, 0, 0, 0, []),
  (110, .getfield 7, 3, 4, 3, 739, 0, []),
  (113, .invokestatic 144, 3, 110, 8, 946, 0, []),
  (116, .iload 7, 2, 0, 0, 0, 0, []),
  (118, .iload 4, 2, 0, 0, 0, 0, []),
  (120, .if_icmp .ge 8, 3, 0, 0, 0, 0, []),
  (123, .iload 5, 2, 0, 0, 0, 0, []),
  (125, .goto 4, 3, 0, 0, 0, 0, []),
  (128, .iload_n 3, 1, 0, 0, 0, 0, []),
  (129, .istore_n 3, 1, 0, 0, 0, 0, [3, 8]),
  (130, .iload 7, 2, 0, 0, 0, 0, []),
  (132, .iload 4, 2, 0, 0, 0, 0, []),
  (134, .if_icmp .ge 8, 3, 0, 0, 0, 0, []),
  (137, .iload 7, 2, 0, 0, 0, 0, []),
  (139, .goto 5, 3, 0, 0, 0, 0, []),
  (142, .iload 4, 2, 0, 0, 0, 0, []),
  (144, .istore 4, 2, 0, 0, 0, 0, []),
  (146, .iinc 5 1, 3, 0, 0, 0, 1, []),
  (149, .goto (-114), 3, 0, 0, 0, 0, []),
  (152, .iload_n 3, 1, 0, 0, 0, 0, []),
  (153, .ireturn, 1, 0, 0, 0, 0, [])]
def rm_X5_plugFor : rv_M := (yX5_plugFor, cX5_plugFor, 9, some .int, 4, 5, 119, rc_X5_plugFor)
def rc_X5_isTold : rv_C := [
  (0, .aload_n 0, 1, 0, 0, 0, 0, []),
  (1, .getfield 7, 3, 4, 3, 739, 0, []),
  (4, .aload_n 0, 1, 0, 0, 0, 0, []),
  (5, .getfield 19, 3, 4, 33, 742, 0, []),
  (8, .invokestatic 144, 3, 110, 8, 946, 0, []),
  (11, .iconst 1, 1, 0, 0, 0, 1, []),
  (12, .istore_n 2, 1, 0, 0, 0, 0, []),
  (13, .iconst 0, 1, 0, 0, 0, 0, []),
  (14, .istore_n 3, 1, 0, 0, 0, 0, []),
  (15, .iload_n 3, 1, 0, 0, 0, 0, [4]),
  (16, .aload_n 0, 1, 0, 0, 0, 0, []),
  (17, .getfield 31, 3, 4, 93, 748, 0, []),
  (20, .iload_n 1, 1, 0, 0, 0, 0, []),
  (21, .iaload, 1, 0, 0, 0, 0, []),
  (22, .if_icmp .ge 59, 3, 0, 0, 0, 0, []),
  (25, .iload_n 2, 1, 0, 0, 0, 0, []),
  (26, .ifCond .eq 55, 3, 0, 0, 0, 0, []),
  (29, .aload_n 0, 1, 0, 0, 0, 0, []),
  (30, .getfield 34, 3, 4, 103, 749, 0, []),
  (33, .bipush 40, 2, 0, 0, 0, 40, []),
  (35, .iload_n 1, 1, 0, 0, 0, 0, []),
  (36, .imul, 1, 0, 0, 0, 0, []),
  (37, .iload_n 3, 1, 0, 0, 0, 0, []),
  (38, .iadd, 1, 0, 0, 0, 0, []),
  (39, .iaload, 1, 0, 0, 0, 0, []),
  (40, .istore 4, 2, 0, 0, 0, 0, []),
  (42, .iload 4, 2, 0, 0, 0, 0, []),
  (44, .iconst (-1), 1, 0, 0, 0, -1, []),
  (45, .if_icmp .eq 19, 3, 0, 0, 0, 0, []),
  (48, .iload 4, 2, 0, 0, 0, 0, []),
  (50, .aload_n 0, 1, 0, 0, 0, 0, []),
  (51, .getfield 7, 3, 4, 3, 739, 0, []),
  (54, .bipush 9, 2, 0, 0, 0, 9, []),
  (56, .iconst 0, 1, 0, 0, 0, 0, []),
  (57, .invokestatic 62, 3, 118, 9, 816, 0, []),
  (60, .iaload, 1, 0, 0, 0, 0, []),
  (61, .if_icmp .ne 7, 3, 0, 0, 0, 0, []),
  (64, .iconst 1, 1, 0, 0, 0, 1, []),
  (65, .goto 4, 3, 0, 0, 0, 0, []),
  (68, .iconst 0, 1, 0, 0, 0, 0, []),
  (69, .istore_n 2, 1, 0, 0, 0, 0, []),
  (70, .aload_n 0, 1, 0, 0, 0, 0, []),
  (71, .iconst 1, 1, 0, 0, 0, 1, []),
  (72, .invokevirtual 123, 3, 139, 8, 908, 0, []),
  (75, .iinc 3 1, 3, 0, 0, 0, 1, []),
  (78, .goto (-63), 3, 0, 0, 0, 0, []),
  (81, .aload_n 0, 1, 0, 0, 0, 0, []),
  (82, .getfield 19, 3, 4, 33, 742, 0, []),
  (85, .aload_n 0, 1, 0, 0, 0, 0, []),
  (86, .getfield 7, 3, 4, 3, 739, 0, []),
  (89, .invokestatic 144, 3, 110, 8, 946, 0, []),
  (92, .iload_n 2, 1, 0, 0, 0, 0, []),
  (93, .ireturn, 1, 1, 0, 0, 0, [])]
def rm_X5_isTold : rv_M := (yX5_isTold, cX5_isTold, 5, some .boolean, 4, 5, 119, rc_X5_isTold)
def rc_X5_couldBe : rv_C := [
  (0, .bipush 54, 2, 0, 0, 0, 54, []),
  (2, .iconst 4, 1, 0, 0, 0, 4, []),
  (3, .iload_n 2, 1, 0, 0, 0, 0, []),
  (4, .imul, 1, 0, 0, 0, 0, []),
  (5, .iadd, 1, 0, 0, 0, 0, []),
  (6, .iload_n 3, 1, 0, 0, 0, 0, []),
  (7, .iadd, 1, 0, 0, 0, 0, []),
  (8, .istore 4, 2, 0, 0, 0, 0, []),
  (10, .aload_n 0, 1, 0, 0, 0, 0, []),
  (11, .getfield 7, 3, 4, 3, 739, 0, []),
  (14, .iload 4, 2, 0, 0, 0, 0, []),
  (16, .iaload, 1, 0, 0, 0, 0, []),
  (17, .istore 5, 2, 0, 0, 0, 0, []),
  (19, .iconst 0, 1, 0, 0, 0, 0, []),
  (20, .istore 6, 2, 0, 0, 0, 0, []),
  (22, .iconst 0, 1, 0, 0, 0, 0, []),
  (23, .istore 7, 2, 0, 0, 0, 0, []),
  (25, .iload 7, 2, 0, 0, 0, 0, [2]),
  (27, .iload_n 3, 1, 0, 0, 0, 0, []),
  (28, .invokestatic 106, 3, 133, 5, 890, 0, []),
  (31, .if_icmp .gt 39, 3, 0, 0, 0, 0, []),
  (34, .aload_n 0, 1, 0, 0, 0, 0, []),
  (35, .getfield 7, 3, 4, 3, 739, 0, []),
  (38, .iload 4, 2, 0, 0, 0, 0, []),
  (40, .iload 7, 2, 0, 0, 0, 0, []),
  (42, .iastore, 1, 0, 0, 0, 0, []),
  (43, .iload 6, 2, 0, 0, 0, 0, []),
  (45, .aload_n 0, 1, 0, 0, 0, 0, []),
  (46, .iload_n 1, 1, 0, 0, 0, 0, []),
  (47, .invokevirtual 173, 3, 164, 9, 1044, 0, []),
  (50, .ifCond .eq 10, 3, 0, 0, 0, 0, []),
  (53, .iconst 1, 1, 0, 0, 0, 1, []),
  (54, .iload 7, 2, 0, 0, 0, 0, []),
  (56, .ishl, 1, 0, 0, 0, 0, []),
  (57, .goto 4, 3, 0, 0, 0, 0, []),
  (60, .iconst 0, 1, 0, 0, 0, 0, []),
  (61, .ior, 1, 0, 0, 0, 0, []),
  (62, .istore 6, 2, 0, 0, 0, 0, []),
  (64, .iinc 7 1, 3, 0, 0, 0, 1, []),
  (67, .goto (-42), 3, 0, 0, 0, 0, []),
  (70, .aload_n 0, 1, 0, 0, 0, 0, []),
  (71, .getfield 7, 3, 4, 3, 739, 0, []),
  (74, .iload 4, 2, 0, 0, 0, 0, []),
  (76, .iload 5, 2, 0, 0, 0, 0, []),
  (78, .iastore, 1, 0, 0, 0, 0, []),
  (79, .iload 6, 2, 0, 0, 0, 0, []),
  (81, .ireturn, 1, 0, 0, 0, 0, [])]
def rm_X5_couldBe : rv_M := (yX5_couldBe, cX5_couldBe, 8, some .int, 4, 6, 143, rc_X5_couldBe)
def rc_X5_wantsFor : rv_C := [
  (0, .aload_n 0, 1, 0, 0, 0, 0, []),
  (1, .iload_n 1, 1, 0, 0, 0, 0, []),
  (2, .invokevirtual 176, 3, 201, 9, 1032, 0, []),
  (5, .ifCond .eq 11, 3, 0, 0, 0, 0, []),
  (8, .aload_n 0, 1, 0, 0, 0, 0, []),
  (9, .iload_n 1, 1, 0, 0, 0, 0, []),
  (10, .invokevirtual 176, 3, 201, 9, 1032, 0, []),
  (13, .goto 17, 3, 0, 0, 0, 0, []),
  (16, .aload_n 0, 1, 0, 0, 0, 0, []),
  (17, .iload_n 2, 1, 0, 0, 0, 0, []),
  (18, .invokevirtual 90, 3, 113, 9, 861, 0, []),
  (21, .ifCond .eq 7, 3, 0, 0, 0, 0, []),
  (24, .iconst 0, 1, 0, 0, 0, 0, []),
  (25, .goto 5, 3, 0, 0, 0, 0, []),
  (28, .ldc 37, 2, 0, 0, 803, -1000001, []),
  (30, .ireturn, 1, 0, 0, 0, 0, [])]
def rm_X5_wantsFor : rv_M := (yX5_wantsFor, cX5_wantsFor, 3, some .int, 4, 2, 41, rc_X5_wantsFor)
def rc_X5_fits : rv_C := [
  (0, .aload_n 0, 1, 0, 0, 0, 0, []),
  (1, .iload_n 1, 1, 0, 0, 0, 0, []),
  (2, .iload_n 2, 1, 0, 0, 0, 0, []),
  (3, .invokevirtual 179, 3, 166, 13, 1028, 0, []),
  (6, .istore_n 3, 1, 0, 0, 0, 0, []),
  (7, .iload_n 3, 1, 0, 0, 0, 0, []),
  (8, .ifCond .eq 11, 3, 0, 0, 0, 0, []),
  (11, .aload_n 0, 1, 0, 0, 0, 0, []),
  (12, .iload_n 3, 1, 0, 0, 0, 0, []),
  (13, .invokevirtual 39, 3, 108, 9, 804, 0, []),
  (16, .goto 10, 3, 0, 0, 0, 0, []),
  (19, .aload_n 0, 1, 0, 0, 0, 0, []),
  (20, .iload_n 1, 1, 0, 0, 0, 0, []),
  (21, .iload_n 2, 1, 0, 0, 0, 0, []),
  (22, .iconst 2, 1, 0, 0, 0, 2, []),
  (23, .invokevirtual 182, 3, 165, 17, 1040, 0, []),
  (26, .ireturn, 1, 0, 0, 0, 0, [])]
def rm_X5_fits : rv_M := (yX5_fits, cX5_fits, 4, some .int, 4, 7, 170, rc_X5_fits)
def rc_X5_kinds : rv_C := [
  (0, .aload_n 0, 1, 0, 0, 0, 0, []),
  (1, .iload_n 1, 1, 0, 0, 0, 0, []),
  (2, .iload_n 2, 1, 0, 0, 0, 0, []),
  (3, .invokevirtual 179, 3, 166, 13, 1028, 0, []),
  (6, .istore_n 3, 1, 0, 0, 0, 0, []),
  (7, .iload_n 3, 1, 0, 0, 0, 0, []),
  (8, .ifCond .eq 11, 3, 0, 0, 0, 0, []),
  (11, .aload_n 0, 1, 0, 0, 0, 0, []),
  (12, .iload_n 3, 1, 0, 0, 0, 0, []),
  (13, .invokevirtual 39, 3, 108, 9, 804, 0, []),
  (16, .goto 10, 3, 0, 0, 0, 0, []),
  (19, .aload_n 0, 1, 0, 0, 0, 0, []),
  (20, .iload_n 1, 1, 0, 0, 0, 0, []),
  (21, .iload_n 2, 1, 0, 0, 0, 0, []),
  (22, .iconst 0, 1, 0, 0, 0, 0, []),
  (23, .invokevirtual 182, 3, 165, 17, 1040, 0, []),
  (26, .ireturn, 1, 0, 0, 0, 0, [])]
def rm_X5_kinds : rv_M := (yX5_kinds, cX5_kinds, 4, some .int, 4, 7, 170, rc_X5_kinds)
def rc_X5_plugs : rv_C := [
  (0, .iload_n 1, 1, 0, 0, 0, 0, []),
  (1, .i2l, 1, 0, 0, 0, 0, []),
  (2, .lconst 1, 1, 0, 0, 0, 1, []),
  (3, .ldc2_w 167, 3, 0, 0, 1011, 20, []),
  (6, .invokestatic 49, 3, 107, 13, 796, 0, []),
  (9, .ifCond .ne 10, 3, 0, 0, 0, 0, []),
  (12, .aload_n 0, 1, 0, 0, 0, 0, []),
  (13, .ldc 37, 2, 0, 0, 803, -1000001, []),
  (15, .invokevirtual 39, 3, 108, 9, 804, 0, []),
  (18, .ireturn, 1, 0, 0, 0, 0, []),
  (19, .aload_n 0, 1, 0, 0, 0, 0, []),
  (20, .getfield 7, 3, 4, 3, 739, 0, []),
  (23, .iconst 1, 1, 0, 0, 0, 1, []),
  (24, .iaload, 1, 0, 0, 0, 0, []),
  (25, .iload_n 1, 1, 0, 0, 0, 0, []),
  (26, .iadd, 1, 0, 0, 0, 0, []),
  (27, .ldc 121, 2, 0, 0, 906, 99999, []),
  (29, .if_icmp .le 10, 3, 0, 0, 0, 0, []),
  (32, .aload_n 0, 1, 0, 0, 0, 0, []),
  (33, .ldc 122, 2, 0, 0, 907, -1000005, []),
  (35, .invokevirtual 39, 3, 108, 9, 804, 0, []),
  (38, .ireturn, 1, 0, 0, 0, 0, []),
  (39, .iconst 0, 1, 0, 0, 0, 0, []),
  (40, .istore_n 2, 1, 0, 0, 0, 0, []),
  (41, .iload_n 2, 1, 0, 0, 0, 0, [3]),
  (42, .iload_n 1, 1, 0, 0, 0, 0, []),
  (43, .if_icmp .ge 50, 3, 0, 0, 0, 0, []),
  (46, .aload_n 0, 1, 0, 0, 0, 0, []),
  (47, .getfield 7, 3, 4, 3, 739, 0, []),
  (50, .iconst 3, 1, 0, 0, 0, 3, []),
  (51, .aload_n 0, 1, 0, 0, 0, 0, []),
  (52, .getfield 7, 3, 4, 3, 739, 0, []),
  (55, .iconst 3, 1, 0, 0, 0, 3, []),
  (56, .iaload, 1, 0, 0, 0, 0, []),
  (57, .ldc 186, 2, 0, 0, 1056, 1103515245, []),
  (59, .imul, 1, 0, 0, 0, 0, []),
  (60, .sipush 12345, 3, 0, 0, 0, 12345, []),
  (63, .iadd, 1, 0, 0, 0, 0, []),
  (64, .iastore, 1, 0, 0, 0, 0, []),
  (65, .aload_n 0, 1, 0, 0, 0, 0, []),
  (66, .aload_n 0, 1, 0, 0, 0, 0, []),
  (67, .getfield 7, 3, 4, 3, 739, 0, []),
  (70, .iconst 3, 1, 0, 0, 0, 3, []),
  (71, .iaload, 1, 0, 0, 0, 0, []),
  (72, .bipush 8, 2, 0, 0, 0, 8, []),
  (74, .iushr, 1, 0, 0, 0, 0, []),
  (75, .bipush 10, 2, 0, 0, 0, 10, []),
  (77, .irem, 1, 0, 0, 0, 0, []),
  (78, .invokevirtual 76, 3, 124, 9, 844, 0, []),
  (81, .istore_n 3, 1, 0, 0, 0, 0, []),
  (82, .aload_n 0, 1, 0, 0, 0, 0, []),
  (83, .iconst 1, 1, 0, 0, 0, 1, []),
  (84, .invokevirtual 123, 3, 139, 8, 908, 0, []),
  (87, .iinc 2 1, 3, 0, 0, 0, 1, []),
  (90, .goto (-49), 3, 0, 0, 0, 0, []),
  (93, .aload_n 0, 1, 0, 0, 0, 0, []),
  (94, .iconst 4, 1, 0, 0, 0, 4, []),
  (95, .bipush 10, 2, 0, 0, 0, 10, []),
  (97, .invokevirtual 127, 3, 141, 13, 924, 0, []),
  (100, .ireturn, 1, 0, 0, 0, 0, [])]
def rm_X5_plugs : rv_M := (yX5_plugs, cX5_plugs, 4, some .int, 4, 5, 119, rc_X5_plugs)
def rc_X5_odds : rv_C := [
  (0, .iload_n 1, 1, 0, 0, 0, 0, []),
  (1, .i2l, 1, 0, 0, 0, 0, []),
  (2, .lconst 0, 1, 0, 0, 0, 0, []),
  (3, .ldc2_w 187, 3, 0, 0, 1061, 18, []),
  (6, .invokestatic 49, 3, 107, 13, 796, 0, []),
  (9, .ifCond .eq 13, 3, 0, 0, 0, 0, []),
  (12, .iload_n 2, 1, 0, 0, 0, 0, []),
  (13, .i2l, 1, 0, 0, 0, 0, []),
  (14, .lconst 0, 1, 0, 0, 0, 0, []),
  (15, .lconst 1, 1, 0, 0, 0, 1, []),
  (16, .invokestatic 49, 3, 107, 13, 796, 0, []),
  (19, .ifCond .ne 11, 3, 0, 0, 0, 0, []),
  (22, .aload_n 0, 1, 0, 0, 0, 0, []),
  (23, .ldc 37, 2, 0, 0, 803, -1000001, []),
  (25, .invokevirtual 39, 3, 108, 9, 804, 0, []),
  (28, .i2l, 1, 0, 0, 0, 0, []),
  (29, .lreturn, 1, 0, 0, 0, 0, []),
  (30, .iconst 0, 1, 0, 0, 0, 0, []),
  (31, .istore_n 3, 1, 0, 0, 0, 0, []),
  (32, .iconst 0, 1, 0, 0, 0, 0, []),
  (33, .istore 4, 2, 0, 0, 0, 0, []),
  (35, .iload 4, 2, 0, 0, 0, 0, []),
  (37, .bipush 10, 2, 0, 0, 0, 10, []),
  (39, .if_icmp .ge 26, 3, 0, 0, 0, 0, []),
  (42, .iload_n 3, 1, 0, 0, 0, 0, []),
  (43, .aload_n 0, 1, 0, 0, 0, 0, []),
  (44, .iload 4, 2, 0, 0, 0, 0, []),
  (46, .invokevirtual 70, 3, 121, 9, 824, 0, []),
  (49, .ifCond .ne 7, 3, 0, 0, 0, 0, []),
  (52, .iconst 1, 1, 0, 0, 0, 1, []),
  (53, .goto 4, 3, 0, 0, 0, 0, []),
  (56, .iconst 0, 1, 0, 0, 0, 0, []),
  (57, .iadd, 1, 0, 0, 0, 0, []),
  (58, .istore_n 3, 1, 0, 0, 0, 0, []),
  (59, .iinc 4 1, 3, 0, 0, 0, 1, []),
  (62, .goto (-27), 3, 0, 0, 0, 0, []),
  (65, .lconst 1, 1, 0, 0, 0, 1, []),
  (66, .lstore 4, 2, 0, 0, 0, 0, []),
  (68, .lconst 1, 1, 0, 0, 0, 1, []),
  (69, .lstore 6, 2, 0, 0, 0, 0, []),
  (71, .iconst 0, 1, 0, 0, 0, 0, []),
  (72, .istore 8, 2, 0, 0, 0, 0, []),
  (74, .iload 8, 2, 0, 0, 0, 0, [0]),
  (76, .iload_n 1, 1, 0, 0, 0, 0, []),
  (77, .if_icmp .ge 24, 3, 0, 0, 0, 0, []),
  (80, .lload 4, 2, 0, 0, 0, 0, []),
  (82, .iload_n 3, 1, 0, 0, 0, 0, []),
  (83, .i2l, 1, 0, 0, 0, 0, []),
  (84, .lmul, 1, 0, 0, 0, 0, []),
  (85, .lstore 4, 2, 0, 0, 0, 0, []),
  (87, .lload 6, 2, 0, 0, 0, 0, []),
  (89, .ldc2_w 189, 3, 0, 0, 1062, 10, []),
  (92, .lmul, 1, 0, 0, 0, 0, []),
  (93, .lstore 6, 2, 0, 0, 0, 0, []),
  (95, .iinc 8 1, 3, 0, 0, 0, 1, []),
  (98, .goto (-24), 3, 0, 0, 0, 0, []),
  (101, .lload 6, 2, 0, 0, 0, 0, []),
  (103, .lstore 8, 2, 0, 0, 0, 0, []),
  (105, .lload 4, 2, 0, 0, 0, 0, []),
  (107, .lstore 10, 2, 0, 0, 0, 0, []),
  (109, .lload 10, 2, 0, 0, 0, 0, [1, 3, 12]),
  (111, .lconst 0, 1, 0, 0, 0, 0, []),
  (112, .lcmp, 1, 0, 0, 0, 0, []),
  (113, .ifCond .eq 21, 3, 0, 0, 0, 0, []),
  (116, .lload 8, 2, 0, 0, 0, 0, []),
  (118, .lload 10, 2, 0, 0, 0, 0, []),
  (120, .lrem, 1, 0, 0, 0, 0, []),
  (121, .lstore 12, 2, 0, 0, 0, 0, []),
  (123, .lload 10, 2, 0, 0, 0, 0, []),
  (125, .lstore 8, 2, 0, 0, 0, 0, []),
  (127, .lload 12, 2, 0, 0, 0, 0, []),
  (129, .lstore 10, 2, 0, 0, 0, 0, []),
  (131, .goto (-22), 3, 0, 0, 0, 0, []),
  (134, .iload_n 2, 1, 0, 0, 0, 0, []),
  (135, .ifCond .ne 11, 3, 0, 0, 0, 0, []),
  (138, .lload 4, 2, 0, 0, 0, 0, []),
  (140, .lload 8, 2, 0, 0, 0, 0, []),
  (142, .ldiv, 1, 0, 0, 0, 0, []),
  (143, .goto 8, 3, 0, 0, 0, 0, []),
  (146, .lload 6, 2, 0, 0, 0, 0, []),
  (148, .lload 8, 2, 0, 0, 0, 0, []),
  (150, .ldiv, 1, 0, 0, 0, 0, []),
  (151, .lreturn, 1, 0, 0, 0, 0, [])]
def rm_X5_odds : rv_M := (yX5_odds, cX5_odds, 14, some .long, 4, 2, 45, rc_X5_odds)
def rc_X5_seed : rv_C := [
  (0, .aload_n 0, 1, 0, 0, 0, 0, []),
  (1, .iconst 3, 1, 0, 0, 0, 3, []),
  (2, .iload_n 1, 1, 0, 0, 0, 0, []),
  (3, .invokevirtual 53, 3, 109, 13, 799, 0, []),
  (6, .ireturn, 1, 0, 0, 0, 0, [])]
def rm_X5_seed : rv_M := (yX5_seed, cX5_seed, 2, some .int, 4, 1, 23, rc_X5_seed)
def rc_X5_feed : rv_C := [
  (0, .iload_n 2, 1, 0, 0, 0, 0, []),
  (1, .i2l, 1, 0, 0, 0, 0, []),
  (2, .lconst 1, 1, 0, 0, 0, 1, []),
  (3, .ldc2_w 140, 3, 0, 0, 944, 4, []),
  (6, .invokestatic 49, 3, 107, 13, 796, 0, []),
  (9, .ifCond .ne 10, 3, 0, 0, 0, 0, []),
  (12, .aload_n 0, 1, 0, 0, 0, 0, []),
  (13, .ldc 37, 2, 0, 0, 803, -1000001, []),
  (15, .invokevirtual 39, 3, 108, 9, 804, 0, []),
  (18, .ireturn, 1, 0, 0, 0, 0, []),
  (19, .aload_n 0, 1, 0, 0, 0, 0, []),
  (20, .getfield 191, 3, 4, 71, 746, 0, []),
  (23, .iload_n 2, 1, 0, 0, 0, 0, []),
  (24, .iadd, 1, 0, 0, 0, 0, []),
  (25, .bipush 120, 2, 0, 0, 0, 120, []),
  (27, .if_icmp .le 10, 3, 0, 0, 0, 0, []),
  (30, .aload_n 0, 1, 0, 0, 0, 0, []),
  (31, .ldc 79, 2, 0, 0, 852, -1000002, []),
  (33, .invokevirtual 39, 3, 108, 9, 804, 0, []),
  (36, .ireturn, 1, 0, 0, 0, 0, []),
  (37, .iload_n 2, 1, 0, 0, 0, 0, []),
  (38, .iconst 1, 1, 0, 0, 0, 1, []),
  (39, .isub, 1, 0, 0, 0, 0, []),
  (40, .istore_n 3, 1, 0, 0, 0, 0, []),
  (41, .iload_n 3, 1, 0, 0, 0, 0, [2]),
  (42, .ifCond .lt 38, 3, 0, 0, 0, 0, []),
  (45, .aload_n 0, 1, 0, 0, 0, 0, []),
  (46, .getfield 25, 3, 4, 63, 745, 0, []),
  (49, .aload_n 0, 1, 0, 0, 0, 0, []),
  (50, .getfield 191, 3, 4, 71, 746, 0, []),
  (53, .iload_n 1, 1, 0, 0, 0, 0, []),
  (54, .bipush 8, 2, 0, 0, 0, 8, []),
  (56, .iload_n 3, 1, 0, 0, 0, 0, []),
  (57, .imul, 1, 0, 0, 0, 0, []),
  (58, .ishr, 1, 0, 0, 0, 0, []),
  (59, .sipush 255, 3, 0, 0, 0, 255, []),
  (62, .iand, 1, 0, 0, 0, 0, []),
  (63, .iastore, 1, 0, 0, 0, 0, []),
  (64, .aload_n 0, 1, 0, 0, 0, 0, []),
  (65, .dup, 1, 0, 0, 0, 0, []),
  (66, .getfield 191, 3, 4, 71, 746, 0, []),
  (69, .iconst 1, 1, 0, 0, 0, 1, []),
  (70, .iadd, 1, 0, 0, 0, 0, []),
  (71, .putfield 191, 3, 4, 71, 746, 0, []),
  (74, .iinc 3 (-1), 3, 0, 0, 0, -1, []),
  (77, .goto (-36), 3, 0, 0, 0, 0, []),
  (80, .aload_n 0, 1, 0, 0, 0, 0, []),
  (81, .getfield 191, 3, 4, 71, 746, 0, []),
  (84, .ireturn, 1, 0, 0, 0, 0, [])]
def rm_X5_feed : rv_M := (yX5_feed, cX5_feed, 4, some .int, 4, 1, 25, rc_X5_feed)
def rc_X5_wipe : rv_C := [
  (0, .aload_n 0, 1, 0, 0, 0, 0, []),
  (1, .getfield 191, 3, 4, 71, 746, 0, []),
  (4, .istore_n 1, 1, 0, 0, 0, 0, []),
  (5, .aload_n 0, 1, 0, 0, 0, 0, []),
  (6, .iconst 0, 1, 0, 0, 0, 0, []),
  (7, .putfield 191, 3, 4, 71, 746, 0, []),
  (10, .iload_n 1, 1, 0, 0, 0, 0, []),
  (11, .ireturn, 1, 0, 0, 0, 0, [])]
def rm_X5_wipe : rv_M := (yX5_wipe, cX5_wipe, 2, some .int, 4, 0, 0, rc_X5_wipe)
def rc_X5_isLetter : rv_C := [
  (0, .iload_n 0, 1, 0, 0, 0, 0, []),
  (1, .bipush 97, 2, 0, 0, 0, 97, []),
  (3, .if_icmp .lt 13, 3, 0, 0, 0, 0, []),
  (6, .iload_n 0, 1, 0, 0, 0, 0, []),
  (7, .bipush 122, 2, 0, 0, 0, 122, []),
  (9, .if_icmp .gt 7, 3, 0, 0, 0, 0, []),
  (12, .iconst 1, 1, 0, 0, 0, 1, []),
  (13, .goto 4, 3, 0, 0, 0, 0, []),
  (16, .iconst 0, 1, 0, 0, 0, 0, []),
  (17, .ireturn, 1, 1, 0, 0, 0, [])]
def rm_X5_isLetter : rv_M := (yX5_isLetter, cX5_isLetter, 1, some .boolean, 99, 0, 0, rc_X5_isLetter)
def rc_X5_isDigit : rv_C := [
  (0, .iload_n 0, 1, 0, 0, 0, 0, []),
  (1, .bipush 48, 2, 0, 0, 0, 48, []),
  (3, .if_icmp .lt 13, 3, 0, 0, 0, 0, []),
  (6, .iload_n 0, 1, 0, 0, 0, 0, []),
  (7, .bipush 57, 2, 0, 0, 0, 57, []),
  (9, .if_icmp .gt 7, 3, 0, 0, 0, 0, []),
  (12, .iconst 1, 1, 0, 0, 0, 1, []),
  (13, .goto 4, 3, 0, 0, 0, 0, []),
  (16, .iconst 0, 1, 0, 0, 0, 0, []),
  (17, .ireturn, 1, 1, 0, 0, 0, [])]
def rm_X5_isDigit : rv_M := (yX5_isDigit, cX5_isDigit, 1, some .boolean, 99, 0, 0, rc_X5_isDigit)
def rc_X5_byteAt : rv_C := [
  (0, .iload_n 1, 1, 0, 0, 0, 0, []),
  (1, .aload_n 0, 1, 0, 0, 0, 0, []),
  (2, .getfield 191, 3, 4, 71, 746, 0, []),
  (5, .if_icmp .ge 12, 3, 0, 0, 0, 0, []),
  (8, .aload_n 0, 1, 0, 0, 0, 0, []),
  (9, .getfield 25, 3, 4, 63, 745, 0, []),
  (12, .iload_n 1, 1, 0, 0, 0, 0, []),
  (13, .iaload, 1, 0, 0, 0, 0, []),
  (14, .goto 4, 3, 0, 0, 0, 0, []),
  (17, .iconst (-1), 1, 0, 0, 0, -1, []),
  (18, .ireturn, 1, 0, 0, 0, 0, [])]
def rm_X5_byteAt : rv_M := (yX5_byteAt, cX5_byteAt, 2, some .int, 4, 0, 0, rc_X5_byteAt)
def rc_X5_nextToken : rv_C := [
  (0, .aload_n 0, 1, 0, 0, 0, 0, []),
  (1, .aload_n 0, 1, 0, 0, 0, 0, []),
  (2, .getfield 195, 3, 4, 131, 752, 0, []),
  (5, .putfield 198, 3, 4, 121, 751, 0, []),
  (8, .aload_n 0, 1, 0, 0, 0, 0, []),
  (9, .aload_n 0, 1, 0, 0, 0, 0, []),
  (10, .getfield 198, 3, 4, 121, 751, 0, []),
  (13, .invokevirtual 201, 3, 176, 9, 1083, 0, []),
  (16, .bipush 32, 2, 0, 0, 0, 32, []),
  (18, .if_icmp .ne 16, 3, 0, 0, 0, 0, []),
  (21, .aload_n 0, 1, 0, 0, 0, 0, []),
  (22, .dup, 1, 0, 0, 0, 0, []),
  (23, .getfield 198, 3, 4, 121, 751, 0, []),
  (26, .iconst 1, 1, 0, 0, 0, 1, []),
  (27, .iadd, 1, 0, 0, 0, 0, []),
  (28, .putfield 198, 3, 4, 121, 751, 0, []),
  (31, .goto (-23), 3, 0, 0, 0, 0, []),
  (34, .aload_n 0, 1, 0, 0, 0, 0, []),
  (35, .aload_n 0, 1, 0, 0, 0, 0, []),
  (36, .getfield 198, 3, 4, 121, 751, 0, []),
  (39, .putfield 195, 3, 4, 131, 752, 0, []),
  (42, .aload_n 0, 1, 0, 0, 0, 0, []),
  (43, .aload_n 0, 1, 0, 0, 0, 0, []),
  (44, .getfield 198, 3, 4, 121, 751, 0, []),
  (47, .invokevirtual 201, 3, 176, 9, 1083, 0, []),
  (50, .istore_n 1, 1, 0, 0, 0, 0, []),
  (51, .aload_n 0, 1, 0, 0, 0, 0, []),
  (52, .iload_n 1, 1, 0, 0, 0, 0, []),
  (53, .ifCond .ge 7, 3, 0, 0, 0, 0, []),
  (56, .iconst 0, 1, 0, 0, 0, 0, []),
  (57, .goto 36, 3, 0, 0, 0, 0, []),
  (60, .iload_n 1, 1, 0, 0, 0, 0, []),
  (61, .invokestatic 204, 3, 174, 5, 1087, 0, []),
  (64, .ifCond .eq 7, 3, 0, 0, 0, 0, []),
  (67, .iconst 1, 1, 0, 0, 0, 1, []),
  (68, .goto 25, 3, 0, 0, 0, 0, []),
  (71, .iload_n 1, 1, 0, 0, 0, 0, []),
  (72, .invokestatic 207, 3, 175, 5, 1090, 0, []),
  (75, .ifCond .eq 7, 3, 0, 0, 0, 0, []),
  (78, .iconst 2, 1, 0, 0, 0, 2, []),
  (79, .goto 14, 3, 0, 0, 0, 0, []),
  (82, .iload_n 1, 1, 0, 0, 0, 0, []),
  (83, .bipush 59, 2, 0, 0, 0, 59, []),
  (85, .if_icmp .ne 7, 3, 0, 0, 0, 0, []),
  (88, .iconst 3, 1, 0, 0, 0, 3, []),
  (89, .goto 4, 3, 0, 0, 0, 0, []),
  (92, .iconst 4, 1, 0, 0, 0, 4, []),
  (93, .putfield 210, 3, 4, 111, 750, 0, []),
  (96, .aload_n 0, 1, 0, 0, 0, 0, []),
  (97, .iconst 0, 1, 0, 0, 0, 0, []),
  (98, .putfield 213, 3, 4, 141, 753, 0, []),
  (101, .aload_n 0, 1, 0, 0, 0, 0, [1]),
  (102, .getfield 210, 3, 4, 111, 750, 0, []),
  (105, .iconst 1, 1, 0, 0, 0, 1, []),
  (106, .if_icmp .ne 30, 3, 0, 0, 0, 0, []),
  (109, .aload_n 0, 1, 0, 0, 0, 0, []),
  (110, .aload_n 0, 1, 0, 0, 0, 0, []),
  (111, .getfield 195, 3, 4, 131, 752, 0, []),
  (114, .invokevirtual 201, 3, 176, 9, 1083, 0, []),
  (117, .invokestatic 204, 3, 174, 5, 1087, 0, []),
  (120, .ifCond .eq 16, 3, 0, 0, 0, 0, []),
  (123, .aload_n 0, 1, 0, 0, 0, 0, []),
  (124, .dup, 1, 0, 0, 0, 0, []),
  (125, .getfield 195, 3, 4, 131, 752, 0, []),
  (128, .iconst 1, 1, 0, 0, 0, 1, []),
  (129, .iadd, 1, 0, 0, 0, 0, []),
  (130, .putfield 195, 3, 4, 131, 752, 0, []),
  (133, .goto (-32), 3, 0, 0, 0, 0, []),
  (136, .aload_n 0, 1, 0, 0, 0, 0, []),
  (137, .getfield 210, 3, 4, 111, 750, 0, []),
  (140, .iconst 2, 1, 0, 0, 0, 2, []),
  (141, .if_icmp .ne 70, 3, 0, 0, 0, 0, []),
  (144, .aload_n 0, 1, 0, 0, 0, 0, []),
  (145, .aload_n 0, 1, 0, 0, 0, 0, []),
  (146, .getfield 195, 3, 4, 131, 752, 0, []),
  (149, .invokevirtual 201, 3, 176, 9, 1083, 0, []),
  (152, .invokestatic 207, 3, 175, 5, 1090, 0, []),
  (155, .ifCond .eq 56, 3, 0, 0, 0, 0, []),
  (158, .aload_n 0, 1, 0, 0, 0, 0, []),
  (159, .aload_n 0, 1, 0, 0, 0, 0, []),
  (160, .getfield 213, 3, 4, 141, 753, 0, []),
  (163, .sipush 9999, 3, 0, 0, 0, 9999, []),
  (166, .if_icmp .le 10, 3, 0, 0, 0, 0, []),
  (169, .aload_n 0, 1, 0, 0, 0, 0, []),
  (170, .getfield 213, 3, 4, 141, 753, 0, []),
  (173, .goto 22, 3, 0, 0, 0, 0, []),
  (176, .bipush 10, 2, 0, 0, 0, 10, []),
  (178, .aload_n 0, 1, 0, 0, 0, 0, []),
  (179, .getfield 213, 3, 4, 141, 753, 0, []),
  (182, .imul, 1, 0, 0, 0, 0, []),
  (183, .aload_n 0, 1, 0, 0, 0, 0, []),
  (184, .aload_n 0, 1, 0, 0, 0, 0, []),
  (185, .getfield 195, 3, 4, 131, 752, 0, []),
  (188, .invokevirtual 201, 3, 176, 9, 1083, 0, []),
  (191, .iadd, 1, 0, 0, 0, 0, []),
  (192, .bipush 48, 2, 0, 0, 0, 48, []),
  (194, .isub, 1, 0, 0, 0, 0, []),
  (195, .putfield 213, 3, 4, 141, 753, 0, []),
  (198, .aload_n 0, 1, 0, 0, 0, 0, []),
  (199, .dup, 1, 0, 0, 0, 0, []),
  (200, .getfield 195, 3, 4, 131, 752, 0, []),
  (203, .iconst 1, 1, 0, 0, 0, 1, []),
  (204, .iadd, 1, 0, 0, 0, 0, []),
  (205, .putfield 195, 3, 4, 131, 752, 0, []),
  (208, .goto (-72), 3, 0, 0, 0, 0, []),
  (211, .aload_n 0, 1, 0, 0, 0, 0, []),
  (212, .dup, 1, 0, 0, 0, 0, []),
  (213, .getfield 195, 3, 4, 131, 752, 0, []),
  (216, .aload_n 0, 1, 0, 0, 0, 0, []),
  (217, .getfield 210, 3, 4, 111, 750, 0, []),
  (220, .iconst 2, 1, 0, 0, 0, 2, []),
  (221, .if_icmp .le 7, 3, 0, 0, 0, 0, []),
  (224, .iconst 1, 1, 0, 0, 0, 1, []),
  (225, .goto 4, 3, 0, 0, 0, 0, []),
  (228, .iconst 0, 1, 0, 0, 0, 0, []),
  (229, .iadd, 1, 0, 0, 0, 0, []),
  (230, .putfield 195, 3, 4, 131, 752, 0, []),
  (233, .return_, 1, 0, 0, 0, 0, [])]
def rm_X5_nextToken : rv_M := (yX5_nextToken, cX5_nextToken, 2, none, 4, 1, 21, rc_X5_nextToken)
def rc_X5_has3 : rv_C := [
  (0, .aload_n 0, 1, 0, 0, 0, 0, []),
  (1, .aload_n 0, 1, 0, 0, 0, 0, []),
  (2, .getfield 198, 3, 4, 121, 751, 0, []),
  (5, .iload_n 1, 1, 0, 0, 0, 0, []),
  (6, .iadd, 1, 0, 0, 0, 0, []),
  (7, .invokevirtual 201, 3, 176, 9, 1083, 0, []),
  (10, .iload_n 2, 1, 0, 0, 0, 0, []),
  (11, .if_icmp .ne 40, 3, 0, 0, 0, 0, []),
  (14, .aload_n 0, 1, 0, 0, 0, 0, []),
  (15, .aload_n 0, 1, 0, 0, 0, 0, []),
  (16, .getfield 198, 3, 4, 121, 751, 0, []),
  (19, .iload_n 1, 1, 0, 0, 0, 0, []),
  (20, .iadd, 1, 0, 0, 0, 0, []),
  (21, .iconst 1, 1, 0, 0, 0, 1, []),
  (22, .iadd, 1, 0, 0, 0, 0, []),
  (23, .invokevirtual 201, 3, 176, 9, 1083, 0, []),
  (26, .iload_n 3, 1, 0, 0, 0, 0, []),
  (27, .if_icmp .ne 24, 3, 0, 0, 0, 0, []),
  (30, .aload_n 0, 1, 0, 0, 0, 0, []),
  (31, .aload_n 0, 1, 0, 0, 0, 0, []),
  (32, .getfield 198, 3, 4, 121, 751, 0, []),
  (35, .iload_n 1, 1, 0, 0, 0, 0, []),
  (36, .iadd, 1, 0, 0, 0, 0, []),
  (37, .iconst 2, 1, 0, 0, 0, 2, []),
  (38, .iadd, 1, 0, 0, 0, 0, []),
  (39, .invokevirtual 201, 3, 176, 9, 1083, 0, []),
  (42, .iload 4, 2, 0, 0, 0, 0, []),
  (44, .if_icmp .ne 7, 3, 0, 0, 0, 0, []),
  (47, .iconst 1, 1, 0, 0, 0, 1, []),
  (48, .goto 4, 3, 0, 0, 0, 0, []),
  (51, .iconst 0, 1, 0, 0, 0, 0, []),
  (52, .ireturn, 1, 1, 0, 0, 0, [])]
def rm_X5_has3 : rv_M := (yX5_has3, cX5_has3, 5, some .boolean, 4, 1, 21, rc_X5_has3)
def rc_X5_isWord : rv_C := [
  (0, .aload_n 0, 1, 0, 0, 0, 0, []),
  (1, .getfield 210, 3, 4, 111, 750, 0, []),
  (4, .iconst 1, 1, 0, 0, 0, 1, []),
  (5, .if_icmp .ne 20, 3, 0, 0, 0, 0, []),
  (8, .aload_n 0, 1, 0, 0, 0, 0, []),
  (9, .getfield 195, 3, 4, 131, 752, 0, []),
  (12, .aload_n 0, 1, 0, 0, 0, 0, []),
  (13, .getfield 198, 3, 4, 121, 751, 0, []),
  (16, .isub, 1, 0, 0, 0, 0, []),
  (17, .iload_n 1, 1, 0, 0, 0, 0, []),
  (18, .if_icmp .ne 7, 3, 0, 0, 0, 0, []),
  (21, .iconst 1, 1, 0, 0, 0, 1, []),
  (22, .goto 4, 3, 0, 0, 0, 0, []),
  (25, .iconst 0, 1, 0, 0, 0, 0, []),
  (26, .ireturn, 1, 1, 0, 0, 0, [])]
def rm_X5_isWord : rv_M := (yX5_isWord, cX5_isWord, 2, some .boolean, 4, 0, 0, rc_X5_isWord)
def rc_X5_fails : rv_C := [
  (0, .aload_n 0, 1, 0, 0, 0, 0, []),
  (1, .aload_n 0, 1, 0, 0, 0, 0, []),
  (2, .getfield 198, 3, 4, 121, 751, 0, []),
  (5, .putfield 216, 3, 4, 151, 754, 0, []),
  (8, .iconst 0, 1, 0, 0, 0, 0, []),
  (9, .ireturn, 1, 1, 0, 0, 0, [])]
def rm_X5_fails : rv_M := (yX5_fails, cX5_fails, 1, some .boolean, 4, 0, 0, rc_X5_fails)
def rc_X5_isFour : rv_C := [
  (0, .aload_n 0, 1, 0, 0, 0, 0, []),
  (1, .iconst 4, 1, 0, 0, 0, 4, []),
  (2, .invokevirtual 219, 3, 179, 9, 1105, 0, []),
  (5, .ifCond .eq 30, 3, 0, 0, 0, 0, []),
  (8, .aload_n 0, 1, 0, 0, 0, 0, []),
  (9, .iconst 0, 1, 0, 0, 0, 0, []),
  (10, .iload_n 1, 1, 0, 0, 0, 0, []),
  (11, .iload_n 2, 1, 0, 0, 0, 0, []),
  (12, .iload_n 3, 1, 0, 0, 0, 0, []),
  (13, .invokevirtual 222, 3, 178, 21, 1109, 0, []),
  (16, .ifCond .eq 19, 3, 0, 0, 0, 0, []),
  (19, .aload_n 0, 1, 0, 0, 0, 0, []),
  (20, .iconst 1, 1, 0, 0, 0, 1, []),
  (21, .iload_n 2, 1, 0, 0, 0, 0, []),
  (22, .iload_n 3, 1, 0, 0, 0, 0, []),
  (23, .iload 4, 2, 0, 0, 0, 0, []),
  (25, .invokevirtual 222, 3, 178, 21, 1109, 0, []),
  (28, .ifCond .eq 7, 3, 0, 0, 0, 0, []),
  (31, .iconst 1, 1, 0, 0, 0, 1, []),
  (32, .goto 4, 3, 0, 0, 0, 0, []),
  (35, .iconst 0, 1, 0, 0, 0, 0, []),
  (36, .ireturn, 1, 1, 0, 0, 0, [])]
def rm_X5_isFour : rv_M := (yX5_isFour, cX5_isFour, 5, some .boolean, 4, 2, 45, rc_X5_isFour)
def rc_X5_isFive : rv_C := [
  (0, .aload_n 0, 1, 0, 0, 0, 0, []),
  (1, .iconst 5, 1, 0, 0, 0, 5, []),
  (2, .invokevirtual 219, 3, 179, 9, 1105, 0, []),
  (5, .ifCond .eq 31, 3, 0, 0, 0, 0, []),
  (8, .aload_n 0, 1, 0, 0, 0, 0, []),
  (9, .iconst 0, 1, 0, 0, 0, 0, []),
  (10, .iload_n 1, 1, 0, 0, 0, 0, []),
  (11, .iload_n 2, 1, 0, 0, 0, 0, []),
  (12, .iload_n 3, 1, 0, 0, 0, 0, []),
  (13, .invokevirtual 222, 3, 178, 21, 1109, 0, []),
  (16, .ifCond .eq 20, 3, 0, 0, 0, 0, []),
  (19, .aload_n 0, 1, 0, 0, 0, 0, []),
  (20, .iconst 2, 1, 0, 0, 0, 2, []),
  (21, .iload_n 3, 1, 0, 0, 0, 0, []),
  (22, .iload 4, 2, 0, 0, 0, 0, []),
  (24, .iload 5, 2, 0, 0, 0, 0, []),
  (26, .invokevirtual 222, 3, 178, 21, 1109, 0, []),
  (29, .ifCond .eq 7, 3, 0, 0, 0, 0, []),
  (32, .iconst 1, 1, 0, 0, 0, 1, []),
  (33, .goto 4, 3, 0, 0, 0, 0, []),
  (36, .iconst 0, 1, 0, 0, 0, 0, []),
  (37, .ireturn, 1, 1, 0, 0, 0, [])]
def rm_X5_isFive : rv_M := (yX5_isFive, cX5_isFive, 6, some .boolean, 4, 2, 45, rc_X5_isFive)
def rc_X5_isSix : rv_C := [
  (0, .aload_n 0, 1, 0, 0, 0, 0, []),
  (1, .bipush 6, 2, 0, 0, 0, 6, []),
  (3, .invokevirtual 219, 3, 179, 9, 1105, 0, []),
  (6, .ifCond .eq 32, 3, 0, 0, 0, 0, []),
  (9, .aload_n 0, 1, 0, 0, 0, 0, []),
  (10, .iconst 0, 1, 0, 0, 0, 0, []),
  (11, .iload_n 1, 1, 0, 0, 0, 0, []),
  (12, .iload_n 2, 1, 0, 0, 0, 0, []),
  (13, .iload_n 3, 1, 0, 0, 0, 0, []),
  (14, .invokevirtual 222, 3, 178, 21, 1109, 0, []),
  (17, .ifCond .eq 21, 3, 0, 0, 0, 0, []),
  (20, .aload_n 0, 1, 0, 0, 0, 0, []),
  (21, .iconst 3, 1, 0, 0, 0, 3, []),
  (22, .iload 4, 2, 0, 0, 0, 0, []),
  (24, .iload 5, 2, 0, 0, 0, 0, []),
  (26, .iload 6, 2, 0, 0, 0, 0, []),
  (28, .invokevirtual 222, 3, 178, 21, 1109, 0, []),
  (31, .ifCond .eq 7, 3, 0, 0, 0, 0, []),
  (34, .iconst 1, 1, 0, 0, 0, 1, []),
  (35, .goto 4, 3, 0, 0, 0, 0, []),
  (38, .iconst 0, 1, 0, 0, 0, 0, []),
  (39, .ireturn, 1, 1, 0, 0, 0, [])]
def rm_X5_isSix : rv_M := (yX5_isSix, cX5_isSix, 7, some .boolean, 4, 2, 45, rc_X5_isSix)
def rc_X5_isNumber : rv_C := [
  (0, .aload_n 0, 1, 0, 0, 0, 0, []),
  (1, .getfield 210, 3, 4, 111, 750, 0, []),
  (4, .iconst 2, 1, 0, 0, 0, 2, []),
  (5, .if_icmp .ne 18, 3, 0, 0, 0, 0, []),
  (8, .aload_n 0, 1, 0, 0, 0, 0, []),
  (9, .getfield 213, 3, 4, 141, 753, 0, []),
  (12, .i2l, 1, 0, 0, 0, 0, []),
  (13, .iload_n 1, 1, 0, 0, 0, 0, []),
  (14, .i2l, 1, 0, 0, 0, 0, []),
  (15, .iload_n 2, 1, 0, 0, 0, 0, []),
  (16, .i2l, 1, 0, 0, 0, 0, []),
  (17, .invokestatic 49, 3, 107, 13, 796, 0, []),
  (20, .ifCond .ne 10, 3, 0, 0, 0, 0, []),
  (23, .aload_n 0, 1, 0, 0, 0, 0, [1, 2]),
  (24, .invokevirtual 226, 3, 180, 5, 1121, 0, []),
  (27, .ifCond .eq 7, 3, 0, 0, 0, 0, []),
  (30, .iconst 1, 1, 0, 0, 0, 1, []),
  (31, .goto 4, 3, 0, 0, 0, 0, []),
  (34, .iconst 0, 1, 0, 0, 0, 0, []),
  (35, .ireturn, 1, 1, 0, 0, 0, [])]
def rm_X5_isNumber : rv_M := (yX5_isNumber, cX5_isNumber, 3, some .boolean, 4, 1, 25, rc_X5_isNumber)
def rc_X5_kindHere : rv_C := [
  (0, .aload_n 0, 1, 0, 0, 0, 0, []),
  (1, .bipush 98, 2, 0, 0, 0, 98, []),
  (3, .bipush 97, 2, 0, 0, 0, 97, []),
  (5, .bipush 116, 2, 0, 0, 0, 116, []),
  (7, .bipush 104, 2, 0, 0, 0, 104, []),
  (9, .bipush 101, 2, 0, 0, 0, 101, []),
  (11, .bipush 114, 2, 0, 0, 0, 114, []),
  (13, .invokevirtual 230, 3, 183, 29, 1101, 0, []),
  (16, .ifCond .eq 5, 3, 0, 0, 0, 0, []),
  (19, .iconst 0, 1, 0, 0, 0, 0, []),
  (20, .ireturn, 1, 0, 0, 0, 0, []),
  (21, .aload_n 0, 1, 0, 0, 0, 0, []),
  (22, .bipush 7, 2, 0, 0, 0, 7, []),
  (24, .invokevirtual 219, 3, 179, 9, 1105, 0, []),
  (27, .ifCond .eq 47, 3, 0, 0, 0, 0, []),
  (30, .aload_n 0, 1, 0, 0, 0, 0, []),
  (31, .iconst 0, 1, 0, 0, 0, 0, []),
  (32, .bipush 100, 2, 0, 0, 0, 100, []),
  (34, .bipush 117, 2, 0, 0, 0, 117, []),
  (36, .bipush 99, 2, 0, 0, 0, 99, []),
  (38, .invokevirtual 222, 3, 178, 21, 1109, 0, []),
  (41, .ifCond .eq 33, 3, 0, 0, 0, 0, []),
  (44, .aload_n 0, 1, 0, 0, 0, 0, []),
  (45, .iconst 3, 1, 0, 0, 0, 3, []),
  (46, .bipush 104, 2, 0, 0, 0, 104, []),
  (48, .bipush 101, 2, 0, 0, 0, 101, []),
  (50, .bipush 115, 2, 0, 0, 0, 115, []),
  (52, .invokevirtual 222, 3, 178, 21, 1109, 0, []),
  (55, .ifCond .eq 19, 3, 0, 0, 0, 0, []),
  (58, .aload_n 0, 1, 0, 0, 0, 0, []),
  (59, .iconst 4, 1, 0, 0, 0, 4, []),
  (60, .bipush 101, 2, 0, 0, 0, 101, []),
  (62, .bipush 115, 2, 0, 0, 0, 115, []),
  (64, .bipush 115, 2, 0, 0, 0, 115, []),
  (66, .invokevirtual 222, 3, 178, 21, 1109, 0, []),
  (69, .ifCond .eq 5, 3, 0, 0, 0, 0, []),
  (72, .iconst 1, 1, 0, 0, 0, 1, []),
  (73, .ireturn, 1, 0, 0, 0, 0, []),
  (74, .aload_n 0, 1, 0, 0, 0, 0, []),
  (75, .bipush 99, 2, 0, 0, 0, 99, []),
  (77, .bipush 108, 2, 0, 0, 0, 108, []),
  (79, .bipush 101, 2, 0, 0, 0, 101, []),
  (81, .bipush 114, 2, 0, 0, 0, 114, []),
  (83, .bipush 107, 2, 0, 0, 0, 107, []),
  (85, .invokevirtual 234, 3, 182, 25, 1113, 0, []),
  (88, .ifCond .eq 5, 3, 0, 0, 0, 0, []),
  (91, .iconst 2, 1, 0, 0, 0, 2, []),
  (92, .ireturn, 1, 0, 0, 0, 0, []),
  (93, .aload_n 0, 1, 0, 0, 0, 0, []),
  (94, .iconst 3, 1, 0, 0, 0, 3, []),
  (95, .invokevirtual 219, 3, 179, 9, 1105, 0, []),
  (98, .ifCond .eq 19, 3, 0, 0, 0, 0, []),
  (101, .aload_n 0, 1, 0, 0, 0, 0, []),
  (102, .iconst 0, 1, 0, 0, 0, 0, []),
  (103, .bipush 115, 2, 0, 0, 0, 115, []),
  (105, .bipush 112, 2, 0, 0, 0, 112, []),
  (107, .bipush 121, 2, 0, 0, 0, 121, []),
  (109, .invokevirtual 222, 3, 178, 21, 1109, 0, []),
  (112, .ifCond .eq 5, 3, 0, 0, 0, 0, []),
  (115, .iconst 3, 1, 0, 0, 0, 3, []),
  (116, .ireturn, 1, 0, 0, 0, 0, []),
  (117, .aload_n 0, 1, 0, 0, 0, 0, []),
  (118, .bipush 11, 2, 0, 0, 0, 11, []),
  (120, .invokevirtual 219, 3, 179, 9, 1105, 0, []),
  (123, .ifCond .eq 63, 3, 0, 0, 0, 0, []),
  (126, .aload_n 0, 1, 0, 0, 0, 0, []),
  (127, .iconst 0, 1, 0, 0, 0, 0, []),
  (128, .bipush 108, 2, 0, 0, 0, 108, []),
  (130, .bipush 97, 2, 0, 0, 0, 97, []),
  (132, .bipush 109, 2, 0, 0, 0, 109, []),
  (134, .invokevirtual 222, 3, 178, 21, 1109, 0, []),
  (137, .ifCond .eq 49, 3, 0, 0, 0, 0, []),
  (140, .aload_n 0, 1, 0, 0, 0, 0, []),
  (141, .iconst 3, 1, 0, 0, 0, 3, []),
  (142, .bipush 112, 2, 0, 0, 0, 112, []),
  (144, .bipush 108, 2, 0, 0, 0, 108, []),
  (146, .bipush 105, 2, 0, 0, 0, 105, []),
  (148, .invokevirtual 222, 3, 178, 21, 1109, 0, []),
  (151, .ifCond .eq 35, 3, 0, 0, 0, 0, []),
  (154, .aload_n 0, 1, 0, 0, 0, 0, []),
  (155, .bipush 6, 2, 0, 0, 0, 6, []),
  (157, .bipush 103, 2, 0, 0, 0, 103, []),
  (159, .bipush 104, 2, 0, 0, 0, 104, []),
  (161, .bipush 116, 2, 0, 0, 0, 116, []),
  (163, .invokevirtual 222, 3, 178, 21, 1109, 0, []),
  (166, .ifCond .eq 20, 3, 0, 0, 0, 0, []),
  (169, .aload_n 0, 1, 0, 0, 0, 0, []),
  (170, .bipush 8, 2, 0, 0, 0, 8, []),
  (172, .bipush 116, 2, 0, 0, 0, 116, []),
  (174, .bipush 101, 2, 0, 0, 0, 101, []),
  (176, .bipush 114, 2, 0, 0, 0, 114, []),
  (178, .invokevirtual 222, 3, 178, 21, 1109, 0, []),
  (181, .ifCond .eq 5, 3, 0, 0, 0, 0, []),
  (184, .iconst 4, 1, 0, 0, 0, 4, []),
  (185, .ireturn, 1, 0, 0, 0, 0, []),
  (186, .aload_n 0, 1, 0, 0, 0, 0, []),
  (187, .iconst 3, 1, 0, 0, 0, 3, []),
  (188, .invokevirtual 219, 3, 179, 9, 1105, 0, []),
  (191, .ifCond .eq 19, 3, 0, 0, 0, 0, []),
  (194, .aload_n 0, 1, 0, 0, 0, 0, []),
  (195, .iconst 0, 1, 0, 0, 0, 0, []),
  (196, .bipush 115, 2, 0, 0, 0, 115, []),
  (198, .bipush 97, 2, 0, 0, 0, 97, []),
  (200, .bipush 100, 2, 0, 0, 0, 100, []),
  (202, .invokevirtual 222, 3, 178, 21, 1109, 0, []),
  (205, .ifCond .eq 5, 3, 0, 0, 0, 0, []),
  (208, .iconst 5, 1, 0, 0, 0, 5, []),
  (209, .ireturn, 1, 0, 0, 0, 0, []),
  (210, .aload_n 0, 1, 0, 0, 0, 0, []),
  (211, .bipush 99, 2, 0, 0, 0, 99, []),
  (213, .bipush 111, 2, 0, 0, 0, 111, []),
  (215, .bipush 110, 2, 0, 0, 0, 110, []),
  (217, .bipush 115, 2, 0, 0, 0, 115, []),
  (219, .bipush 117, 2, 0, 0, 0, 117, []),
  (221, .bipush 108, 2, 0, 0, 0, 108, []),
  (223, .invokevirtual 230, 3, 183, 29, 1101, 0, []),
  (226, .ifCond .eq 8, 3, 0, 0, 0, 0, []),
  (229, .bipush 6, 2, 0, 0, 0, 6, []),
  (231, .goto 4, 3, 0, 0, 0, 0, []),
  (234, .iconst (-1), 1, 0, 0, 0, -1, []),
  (235, .ireturn, 1, 0, 0, 0, 0, [])]
def rm_X5_kindHere : rv_M := (yX5_kindHere, cX5_kindHere, 1, some .int, 4, 3, 71, rc_X5_kindHere)
def rc_X5_isTwo : rv_C := [
  (0, .aload_n 0, 1, 0, 0, 0, 0, []),
  (1, .iconst 2, 1, 0, 0, 0, 2, []),
  (2, .invokevirtual 219, 3, 179, 9, 1105, 0, []),
  (5, .ifCond .eq 33, 3, 0, 0, 0, 0, []),
  (8, .aload_n 0, 1, 0, 0, 0, 0, []),
  (9, .aload_n 0, 1, 0, 0, 0, 0, []),
  (10, .getfield 198, 3, 4, 121, 751, 0, []),
  (13, .invokevirtual 201, 3, 176, 9, 1083, 0, []),
  (16, .iload_n 1, 1, 0, 0, 0, 0, []),
  (17, .if_icmp .ne 21, 3, 0, 0, 0, 0, []),
  (20, .aload_n 0, 1, 0, 0, 0, 0, []),
  (21, .aload_n 0, 1, 0, 0, 0, 0, []),
  (22, .getfield 198, 3, 4, 121, 751, 0, []),
  (25, .iconst 1, 1, 0, 0, 0, 1, []),
  (26, .iadd, 1, 0, 0, 0, 0, []),
  (27, .invokevirtual 201, 3, 176, 9, 1083, 0, []),
  (30, .iload_n 2, 1, 0, 0, 0, 0, []),
  (31, .if_icmp .ne 7, 3, 0, 0, 0, 0, []),
  (34, .iconst 1, 1, 0, 0, 0, 1, []),
  (35, .goto 4, 3, 0, 0, 0, 0, []),
  (38, .iconst 0, 1, 0, 0, 0, 0, []),
  (39, .ireturn, 1, 1, 0, 0, 0, [])]
def rm_X5_isTwo : rv_M := (yX5_isTwo, cX5_isTwo, 3, some .boolean, 4, 1, 21, rc_X5_isTwo)
def rc_X5_perhaps : rv_C := [
  (0, .iload_n 1, 1, 0, 0, 0, 0, []),
  (1, .ifCond .ne 5, 3, 0, 0, 0, 0, []),
  (4, .iconst 1, 1, 0, 0, 0, 1, []),
  (5, .ireturn, 1, 1, 0, 0, 0, []),
  (6, .aload_n 0, 1, 0, 0, 0, 0, []),
  (7, .invokevirtual 238, 3, 177, 4, 1079, 0, []),
  (10, .aload_n 0, 1, 0, 0, 0, 0, []),
  (11, .iconst 0, 1, 0, 0, 0, 0, []),
  (12, .iload_n 2, 1, 0, 0, 0, 0, []),
  (13, .invokestatic 106, 3, 133, 5, 890, 0, []),
  (16, .invokevirtual 241, 3, 184, 13, 1133, 0, []),
  (19, .ifCond .ne 5, 3, 0, 0, 0, 0, []),
  (22, .iconst 0, 1, 0, 0, 0, 0, []),
  (23, .ireturn, 1, 1, 0, 0, 0, []),
  (24, .aload_n 0, 1, 0, 0, 0, 0, []),
  (25, .getfield 7, 3, 4, 3, 739, 0, []),
  (28, .bipush 54, 2, 0, 0, 0, 54, []),
  (30, .iconst 4, 1, 0, 0, 0, 4, []),
  (31, .aload_n 0, 1, 0, 0, 0, 0, []),
  (32, .getfield 7, 3, 4, 3, 739, 0, []),
  (35, .iconst 0, 1, 0, 0, 0, 0, []),
  (36, .iaload, 1, 0, 0, 0, 0, []),
  (37, .iconst 1, 1, 0, 0, 0, 1, []),
  (38, .isub, 1, 0, 0, 0, 0, []),
  (39, .imul, 1, 0, 0, 0, 0, []),
  (40, .iadd, 1, 0, 0, 0, 0, []),
  (41, .iload_n 2, 1, 0, 0, 0, 0, []),
  (42, .iadd, 1, 0, 0, 0, 0, []),
  (43, .aload_n 0, 1, 0, 0, 0, 0, []),
  (44, .getfield 213, 3, 4, 141, 753, 0, []),
  (47, .iastore, 1, 0, 0, 0, 0, []),
  (48, .aload_n 0, 1, 0, 0, 0, 0, []),
  (49, .invokevirtual 238, 3, 177, 4, 1079, 0, []),
  (52, .iconst 1, 1, 0, 0, 0, 1, []),
  (53, .ireturn, 1, 1, 0, 0, 0, [])]
def rm_X5_perhaps : rv_M := (yX5_perhaps, cX5_perhaps, 3, some .boolean, 4, 2, 47, rc_X5_perhaps)
def rc_X5_batherHere : rv_C := [
  (0, .aload_n 0, 1, 0, 0, 0, 0, []),
  (1, .getfield 7, 3, 4, 3, 739, 0, []),
  (4, .iconst 0, 1, 0, 0, 0, 0, []),
  (5, .iaload, 1, 0, 0, 0, 0, []),
  (6, .bipush 8, 2, 0, 0, 0, 8, []),
  (8, .if_icmp .ne 8, 3, 0, 0, 0, 0, []),
  (11, .aload_n 0, 1, 0, 0, 0, 0, []),
  (12, .invokevirtual 226, 3, 180, 5, 1121, 0, []),
  (15, .ireturn, 1, 1, 0, 0, 0, []),
  (16, .aload_n 0, 1, 0, 0, 0, 0, []),
  (17, .iload_n 1, 1, 0, 0, 0, 0, []),
  (18, .iconst 0, 1, 0, 0, 0, 0, []),
  (19, .iconst 0, 1, 0, 0, 0, 0, []),
  (20, .iconst 0, 1, 0, 0, 0, 0, []),
  (21, .invokevirtual 80, 3, 126, 20, 853, 0, []),
  (24, .aload_n 0, 1, 0, 0, 0, 0, []),
  (25, .invokevirtual 238, 3, 177, 4, 1079, 0, []),
  (28, .aload_n 0, 1, 0, 0, 0, 0, []),
  (29, .aload_n 0, 1, 0, 0, 0, 0, []),
  (30, .bipush 105, 2, 0, 0, 0, 105, []),
  (32, .bipush 110, 2, 0, 0, 0, 110, []),
  (34, .invokevirtual 245, 3, 186, 13, 1125, 0, []),
  (37, .iconst 1, 1, 0, 0, 0, 1, []),
  (38, .invokevirtual 248, 3, 187, 13, 1129, 0, []),
  (41, .ifCond .eq 49, 3, 0, 0, 0, 0, []),
  (44, .aload_n 0, 1, 0, 0, 0, 0, []),
  (45, .aload_n 0, 1, 0, 0, 0, 0, []),
  (46, .bipush 119, 2, 0, 0, 0, 119, []),
  (48, .bipush 105, 2, 0, 0, 0, 105, []),
  (50, .bipush 116, 2, 0, 0, 0, 116, []),
  (52, .bipush 104, 2, 0, 0, 0, 104, []),
  (54, .invokevirtual 252, 3, 181, 21, 1137, 0, []),
  (57, .iconst 2, 1, 0, 0, 0, 2, []),
  (58, .invokevirtual 248, 3, 187, 13, 1129, 0, []),
  (61, .ifCond .eq 29, 3, 0, 0, 0, 0, []),
  (64, .aload_n 0, 1, 0, 0, 0, 0, []),
  (65, .aload_n 0, 1, 0, 0, 0, 0, []),
  (66, .bipush 107, 2, 0, 0, 0, 107, []),
  (68, .bipush 110, 2, 0, 0, 0, 110, []),
  (70, .bipush 111, 2, 0, 0, 0, 111, []),
  (72, .bipush 119, 2, 0, 0, 0, 119, []),
  (74, .bipush 115, 2, 0, 0, 0, 115, []),
  (76, .invokevirtual 234, 3, 182, 25, 1113, 0, []),
  (79, .iconst 3, 1, 0, 0, 0, 3, []),
  (80, .invokevirtual 248, 3, 187, 13, 1129, 0, []),
  (83, .ifCond .eq 7, 3, 0, 0, 0, 0, []),
  (86, .iconst 1, 1, 0, 0, 0, 1, []),
  (87, .goto 4, 3, 0, 0, 0, 0, []),
  (90, .iconst 0, 1, 0, 0, 0, 0, []),
  (91, .ireturn, 1, 1, 0, 0, 0, [])]
def rm_X5_batherHere : rv_M := (yX5_batherHere, cX5_batherHere, 2, some .boolean, 4, 3, 70, rc_X5_batherHere)
def rc_X5_tubHere : rv_C := [
  (0, .aload_n 0, 1, 0, 0, 0, 0, []),
  (1, .invokevirtual 238, 3, 177, 4, 1079, 0, []),
  (4, .aload_n 0, 1, 0, 0, 0, 0, []),
  (5, .iconst 0, 1, 0, 0, 0, 0, []),
  (6, .bipush 9, 2, 0, 0, 0, 9, []),
  (8, .invokevirtual 241, 3, 184, 13, 1133, 0, []),
  (11, .ifCond .ne 5, 3, 0, 0, 0, 0, []),
  (14, .iconst 0, 1, 0, 0, 0, 0, []),
  (15, .ireturn, 1, 1, 0, 0, 0, []),
  (16, .aload_n 0, 1, 0, 0, 0, 0, []),
  (17, .getfield 213, 3, 4, 141, 753, 0, []),
  (20, .istore_n 1, 1, 0, 0, 0, 0, []),
  (21, .aload_n 0, 1, 0, 0, 0, 0, []),
  (22, .invokevirtual 238, 3, 177, 4, 1079, 0, []),
  (25, .aload_n 0, 1, 0, 0, 0, 0, []),
  (26, .iconst 0, 1, 0, 0, 0, 0, []),
  (27, .bipush 99, 2, 0, 0, 0, 99, []),
  (29, .invokevirtual 241, 3, 184, 13, 1133, 0, []),
  (32, .ifCond .ne 5, 3, 0, 0, 0, 0, []),
  (35, .iconst 0, 1, 0, 0, 0, 0, []),
  (36, .ireturn, 1, 1, 0, 0, 0, []),
  (37, .aload_n 0, 1, 0, 0, 0, 0, []),
  (38, .getfield 7, 3, 4, 3, 739, 0, []),
  (41, .iconst 4, 1, 0, 0, 0, 4, []),
  (42, .iload_n 1, 1, 0, 0, 0, 0, []),
  (43, .iadd, 1, 0, 0, 0, 0, []),
  (44, .aload_n 0, 1, 0, 0, 0, 0, []),
  (45, .getfield 213, 3, 4, 141, 753, 0, []),
  (48, .iastore, 1, 0, 0, 0, 0, []),
  (49, .aload_n 0, 1, 0, 0, 0, 0, []),
  (50, .invokevirtual 238, 3, 177, 4, 1079, 0, []),
  (53, .aload_n 0, 1, 0, 0, 0, 0, []),
  (54, .bipush 111, 2, 0, 0, 0, 111, []),
  (56, .bipush 102, 2, 0, 0, 0, 102, []),
  (58, .invokevirtual 245, 3, 186, 13, 1125, 0, []),
  (61, .ifCond .ne 5, 3, 0, 0, 0, 0, []),
  (64, .iconst 1, 1, 0, 0, 0, 1, []),
  (65, .ireturn, 1, 1, 0, 0, 0, []),
  (66, .aload_n 0, 1, 0, 0, 0, 0, []),
  (67, .invokevirtual 238, 3, 177, 4, 1079, 0, []),
  (70, .aload_n 0, 1, 0, 0, 0, 0, []),
  (71, .iconst 0, 1, 0, 0, 0, 0, []),
  (72, .iconst 3, 1, 0, 0, 0, 3, []),
  (73, .invokevirtual 241, 3, 184, 13, 1133, 0, []),
  (76, .ifCond .ne 5, 3, 0, 0, 0, 0, []),
  (79, .iconst 0, 1, 0, 0, 0, 0, []),
  (80, .ireturn, 1, 1, 0, 0, 0, []),
  (81, .aload_n 0, 1, 0, 0, 0, 0, []),
  (82, .getfield 213, 3, 4, 141, 753, 0, []),
  (85, .istore_n 2, 1, 0, 0, 0, 0, []),
  (86, .aload_n 0, 1, 0, 0, 0, 0, []),
  (87, .invokevirtual 238, 3, 177, 4, 1079, 0, []),
  (90, .aload_n 0, 1, 0, 0, 0, 0, []),
  (91, .iconst 0, 1, 0, 0, 0, 0, []),
  (92, .sipush 9999, 3, 0, 0, 0, 9999, []),
  (95, .invokevirtual 241, 3, 184, 13, 1133, 0, []),
  (98, .ifCond .ne 5, 3, 0, 0, 0, 0, []),
  (101, .iconst 0, 1, 0, 0, 0, 0, []),
  (102, .ireturn, 1, 1, 0, 0, 0, []),
  (103, .aload_n 0, 1, 0, 0, 0, 0, []),
  (104, .getfield 7, 3, 4, 3, 739, 0, []),
  (107, .iload_n 1, 1, 0, 0, 0, 0, []),
  (108, .iload_n 2, 1, 0, 0, 0, 0, []),
  (109, .invokestatic 62, 3, 118, 9, 816, 0, []),
  (112, .aload_n 0, 1, 0, 0, 0, 0, []),
  (113, .getfield 213, 3, 4, 141, 753, 0, []),
  (116, .iastore, 1, 0, 0, 0, 0, []),
  (117, .aload_n 0, 1, 0, 0, 0, 0, []),
  (118, .invokevirtual 238, 3, 177, 4, 1079, 0, []),
  (121, .iconst 1, 1, 0, 0, 0, 1, []),
  (122, .ireturn, 1, 1, 0, 0, 0, [])]
def rm_X5_tubHere : rv_M := (yX5_tubHere, cX5_tubHere, 3, some .boolean, 4, 2, 47, rc_X5_tubHere)
def rc_X5_freshHere : rv_C := [
  (0, .aload_n 0, 1, 0, 0, 0, 0, []),
  (1, .invokevirtual 238, 3, 177, 4, 1079, 0, []),
  (4, .aload_n 0, 1, 0, 0, 0, 0, []),
  (5, .iconst 0, 1, 0, 0, 0, 0, []),
  (6, .bipush 99, 2, 0, 0, 0, 99, []),
  (8, .invokevirtual 241, 3, 184, 13, 1133, 0, []),
  (11, .ifCond .ne 5, 3, 0, 0, 0, 0, []),
  (14, .iconst 0, 1, 0, 0, 0, 0, []),
  (15, .ireturn, 1, 1, 0, 0, 0, []),
  (16, .aload_n 0, 1, 0, 0, 0, 0, []),
  (17, .getfield 7, 3, 4, 3, 739, 0, []),
  (20, .iconst 2, 1, 0, 0, 0, 2, []),
  (21, .aload_n 0, 1, 0, 0, 0, 0, []),
  (22, .getfield 213, 3, 4, 141, 753, 0, []),
  (25, .iastore, 1, 0, 0, 0, 0, []),
  (26, .aload_n 0, 1, 0, 0, 0, 0, []),
  (27, .invokevirtual 238, 3, 177, 4, 1079, 0, []),
  (30, .iconst 1, 1, 0, 0, 0, 1, []),
  (31, .ireturn, 1, 1, 0, 0, 0, [])]
def rm_X5_freshHere : rv_M := (yX5_freshHere, cX5_freshHere, 1, some .boolean, 4, 2, 47, rc_X5_freshHere)
def rc_X5_plugHere : rv_C := [
  (0, .aload_n 0, 1, 0, 0, 0, 0, []),
  (1, .invokevirtual 238, 3, 177, 4, 1079, 0, []),
  (4, .aload_n 0, 1, 0, 0, 0, 0, []),
  (5, .iconst 0, 1, 0, 0, 0, 0, []),
  (6, .bipush 9, 2, 0, 0, 0, 9, []),
  (8, .invokevirtual 241, 3, 184, 13, 1133, 0, []),
  (11, .ifCond .ne 5, 3, 0, 0, 0, 0, []),
  (14, .iconst 0, 1, 0, 0, 0, 0, []),
  (15, .ireturn, 1, 1, 0, 0, 0, []),
  (16, .aload_n 0, 1, 0, 0, 0, 0, []),
  (17, .aload_n 0, 1, 0, 0, 0, 0, []),
  (18, .getfield 213, 3, 4, 141, 753, 0, []),
  (21, .invokevirtual 76, 3, 124, 9, 844, 0, []),
  (24, .istore_n 1, 1, 0, 0, 0, 0, []),
  (25, .aload_n 0, 1, 0, 0, 0, 0, []),
  (26, .invokevirtual 238, 3, 177, 4, 1079, 0, []),
  (29, .iconst 1, 1, 0, 0, 0, 1, []),
  (30, .ireturn, 1, 1, 0, 0, 0, [])]
def rm_X5_plugHere : rv_M := (yX5_plugHere, cX5_plugHere, 2, some .boolean, 4, 3, 67, rc_X5_plugHere)
def rc_X5_itemHere : rv_C := [
  (0, .aload_n 0, 1, 0, 0, 0, 0, []),
  (1, .invokevirtual 255, 3, 185, 5, 1097, 0, []),
  (4, .istore_n 1, 1, 0, 0, 0, 0, []),
  (5, .iload_n 1, 1, 0, 0, 0, 0, []),
  (6, .ifCond .lt 9, 3, 0, 0, 0, 0, []),
  (9, .aload_n 0, 1, 0, 0, 0, 0, []),
  (10, .iload_n 1, 1, 0, 0, 0, 0, []),
  (11, .invokevirtual 258, 3, 188, 9, 1117, 0, []),
  (14, .ireturn, 1, 1, 0, 0, 0, []),
  (15, .aload_n 0, 1, 0, 0, 0, 0, []),
  (16, .iconst 3, 1, 0, 0, 0, 3, []),
  (17, .invokevirtual 219, 3, 179, 9, 1105, 0, []),
  (20, .ifCond .eq 22, 3, 0, 0, 0, 0, []),
  (23, .aload_n 0, 1, 0, 0, 0, 0, []),
  (24, .iconst 0, 1, 0, 0, 0, 0, []),
  (25, .bipush 116, 2, 0, 0, 0, 116, []),
  (27, .bipush 117, 2, 0, 0, 0, 117, []),
  (29, .bipush 98, 2, 0, 0, 0, 98, []),
  (31, .invokevirtual 222, 3, 178, 21, 1109, 0, []),
  (34, .ifCond .eq 8, 3, 0, 0, 0, 0, []),
  (37, .aload_n 0, 1, 0, 0, 0, 0, []),
  (38, .invokevirtual 261, 3, 189, 5, 1141, 0, []),
  (41, .ireturn, 1, 1, 0, 0, 0, []),
  (42, .aload_n 0, 1, 0, 0, 0, 0, [1]),
  (43, .bipush 102, 2, 0, 0, 0, 102, []),
  (45, .bipush 114, 2, 0, 0, 0, 114, []),
  (47, .bipush 101, 2, 0, 0, 0, 101, []),
  (49, .bipush 115, 2, 0, 0, 0, 115, []),
  (51, .bipush 104, 2, 0, 0, 0, 104, []),
  (53, .invokevirtual 234, 3, 182, 25, 1113, 0, []),
  (56, .ifCond .eq 8, 3, 0, 0, 0, 0, []),
  (59, .aload_n 0, 1, 0, 0, 0, 0, []),
  (60, .invokevirtual 264, 3, 190, 5, 1145, 0, []),
  (63, .ireturn, 1, 1, 0, 0, 0, []),
  (64, .aload_n 0, 1, 0, 0, 0, 0, []),
  (65, .bipush 112, 2, 0, 0, 0, 112, []),
  (67, .bipush 108, 2, 0, 0, 0, 108, []),
  (69, .bipush 117, 2, 0, 0, 0, 117, []),
  (71, .bipush 103, 2, 0, 0, 0, 103, []),
  (73, .invokevirtual 252, 3, 181, 21, 1137, 0, []),
  (76, .ifCond .eq 10, 3, 0, 0, 0, 0, []),
  (79, .aload_n 0, 1, 0, 0, 0, 0, []),
  (80, .invokevirtual 267, 3, 191, 5, 1149, 0, []),
  (83, .goto 7, 3, 0, 0, 0, 0, []),
  (86, .aload_n 0, 1, 0, 0, 0, 0, []),
  (87, .invokevirtual 226, 3, 180, 5, 1121, 0, []),
  (90, .ireturn, 1, 1, 0, 0, 0, [])]
def rm_X5_itemHere : rv_M := (yX5_itemHere, cX5_itemHere, 2, some .boolean, 4, 4, 91, rc_X5_itemHere)
def rc_X5_text : rv_C := [
  (0, .aload_n 0, 1, 0, 0, 0, 0, []),
  (1, .getfield 7, 3, 4, 3, 739, 0, []),
  (4, .aload_n 0, 1, 0, 0, 0, 0, []),
  (5, .getfield 16, 3, 4, 23, 741, 0, []),
  (8, .invokestatic 144, 3, 110, 8, 946, 0, []),
  (11, .aload_n 0, 1, 0, 0, 0, 0, []),
  (12, .iconst 0, 1, 0, 0, 0, 0, []),
  (13, .putfield 195, 3, 4, 131, 752, 0, []),
  (16, .aload_n 0, 1, 0, 0, 0, 0, []),
  (17, .invokevirtual 238, 3, 177, 4, 1079, 0, []),
  (20, .iconst 1, 1, 0, 0, 0, 1, []),
  (21, .istore_n 1, 1, 0, 0, 0, 0, []),
  (22, .aload_n 0, 1, 0, 0, 0, 0, []),
  (23, .invokevirtual 270, 3, 192, 5, 1093, 0, []),
  (26, .istore_n 2, 1, 0, 0, 0, 0, []),
  (27, .iload_n 2, 1, 0, 0, 0, 0, []),
  (28, .ifCond .eq 26, 3, 0, 0, 0, 0, []),
  (31, .aload_n 0, 1, 0, 0, 0, 0, []),
  (32, .getfield 210, 3, 4, 111, 750, 0, []),
  (35, .iconst 3, 1, 0, 0, 0, 3, []),
  (36, .if_icmp .ne 18, 3, 0, 0, 0, 0, []),
  (39, .aload_n 0, 1, 0, 0, 0, 0, []),
  (40, .invokevirtual 238, 3, 177, 4, 1079, 0, []),
  (43, .aload_n 0, 1, 0, 0, 0, 0, []),
  (44, .invokevirtual 270, 3, 192, 5, 1093, 0, []),
  (47, .istore_n 2, 1, 0, 0, 0, 0, []),
  (48, .iinc 1 1, 3, 0, 0, 0, 1, []),
  (51, .goto (-24), 3, 0, 0, 0, 0, []),
  (54, .iload_n 2, 1, 0, 0, 0, 0, []),
  (55, .ifCond .eq 21, 3, 0, 0, 0, 0, []),
  (58, .aload_n 0, 1, 0, 0, 0, 0, []),
  (59, .getfield 210, 3, 4, 111, 750, 0, []),
  (62, .ifCond .eq 10, 3, 0, 0, 0, 0, []),
  (65, .aload_n 0, 1, 0, 0, 0, 0, []),
  (66, .invokevirtual 226, 3, 180, 5, 1121, 0, []),
  (69, .ifCond .eq 7, 3, 0, 0, 0, 0, []),
  (72, .iconst 1, 1, 0, 0, 0, 1, []),
  (73, .goto 4, 3, 0, 0, 0, 0, []),
  (76, .iconst 0, 1, 0, 0, 0, 0, []),
  (77, .istore_n 2, 1, 0, 0, 0, 0, [2]),
  (78, .aload_n 0, 1, 0, 0, 0, 0, []),
  (79, .iconst 0, 1, 0, 0, 0, 0, []),
  (80, .putfield 191, 3, 4, 71, 746, 0, []),
  (83, .iload_n 2, 1, 0, 0, 0, 0, []),
  (84, .ifCond .ne 14, 3, 0, 0, 0, 0, []),
  (87, .aload_n 0, 1, 0, 0, 0, 0, []),
  (88, .getfield 16, 3, 4, 23, 741, 0, []),
  (91, .aload_n 0, 1, 0, 0, 0, 0, []),
  (92, .getfield 7, 3, 4, 3, 739, 0, []),
  (95, .invokestatic 144, 3, 110, 8, 946, 0, []),
  (98, .iload_n 2, 1, 0, 0, 0, 0, []),
  (99, .ifCond .eq 7, 3, 0, 0, 0, 0, []),
  (102, .iload_n 1, 1, 0, 0, 0, 0, []),
  (103, .goto 9, 3, 0, 0, 0, 0, []),
  (106, .iconst (-1), 1, 0, 0, 0, -1, []),
  (107, .aload_n 0, 1, 0, 0, 0, 0, []),
  (108, .getfield 216, 3, 4, 151, 754, 0, []),
  (111, .isub, 1, 0, 0, 0, 0, []),
  (112, .ireturn, 1, 0, 0, 0, 0, [])]
def rm_X5_text : rv_M := (yX5_text, cX5_text, 3, some .int, 4, 5, 112, rc_X5_text)
def rc_X5_hold : rv_C := [
  (0, .iload_n 1, 1, 0, 0, 0, 0, []),
  (1, .i2l, 1, 0, 0, 0, 0, []),
  (2, .lconst 0, 1, 0, 0, 0, 0, []),
  (3, .ldc2_w 157, 3, 0, 0, 978, 9, []),
  (6, .invokestatic 49, 3, 107, 13, 796, 0, []),
  (9, .ifCond .eq 16, 3, 0, 0, 0, 0, []),
  (12, .iload_n 2, 1, 0, 0, 0, 0, []),
  (13, .iconst (-1), 1, 0, 0, 0, -1, []),
  (14, .if_icmp .eq 18, 3, 0, 0, 0, 0, []),
  (17, .aload_n 0, 1, 0, 0, 0, 0, []),
  (18, .iload_n 2, 1, 0, 0, 0, 0, []),
  (19, .invokevirtual 90, 3, 113, 9, 861, 0, []),
  (22, .ifCond .ne 10, 3, 0, 0, 0, 0, []),
  (25, .aload_n 0, 1, 0, 0, 0, 0, []),
  (26, .ldc 37, 2, 0, 0, 803, -1000001, []),
  (28, .invokevirtual 39, 3, 108, 9, 804, 0, []),
  (31, .ireturn, 1, 0, 0, 0, 0, []),
  (32, .aload_n 0, 1, 0, 0, 0, 0, []),
  (33, .getfield 7, 3, 4, 3, 739, 0, []),
  (36, .bipush 86, 2, 0, 0, 0, 86, []),
  (38, .iload_n 1, 1, 0, 0, 0, 0, []),
  (39, .iadd, 1, 0, 0, 0, 0, []),
  (40, .iload_n 2, 1, 0, 0, 0, 0, []),
  (41, .iastore, 1, 0, 0, 0, 0, []),
  (42, .iconst 1, 1, 0, 0, 0, 1, []),
  (43, .ireturn, 1, 0, 0, 0, 0, [])]
def rm_X5_hold : rv_M := (yX5_hold, cX5_hold, 3, some .int, 4, 1, 25, rc_X5_hold)
def rc_X5_isUnder : rv_C := [
  (0, .iload_n 1, 1, 0, 0, 0, 0, []),
  (1, .ifCond .eq 44, 3, 0, 0, 0, 0, []),
  (4, .iload_n 0, 1, 0, 0, 0, 0, []),
  (5, .iload_n 1, 1, 0, 0, 0, 0, []),
  (6, .if_icmp .eq 39, 3, 0, 0, 0, 0, []),
  (9, .iload_n 1, 1, 0, 0, 0, 0, []),
  (10, .iconst 2, 1, 0, 0, 0, 2, []),
  (11, .if_icmp .ne 13, 3, 0, 0, 0, 0, []),
  (14, .iload_n 0, 1, 0, 0, 0, 0, []),
  (15, .iconst 3, 1, 0, 0, 0, 3, []),
  (16, .if_icmp .eq 29, 3, 0, 0, 0, 0, []),
  (19, .iload_n 0, 1, 0, 0, 0, 0, []),
  (20, .iconst 4, 1, 0, 0, 0, 4, []),
  (21, .if_icmp .eq 24, 3, 0, 0, 0, 0, []),
  (24, .iload_n 1, 1, 0, 0, 0, 0, []),
  (25, .iconst 3, 1, 0, 0, 0, 3, []),
  (26, .if_icmp .ne 8, 3, 0, 0, 0, 0, []),
  (29, .iload_n 0, 1, 0, 0, 0, 0, []),
  (30, .iconst 4, 1, 0, 0, 0, 4, []),
  (31, .if_icmp .eq 14, 3, 0, 0, 0, 0, []),
  (34, .iload_n 1, 1, 0, 0, 0, 0, []),
  (35, .iconst 1, 1, 0, 0, 0, 1, []),
  (36, .if_icmp .ne 13, 3, 0, 0, 0, 0, []),
  (39, .iload_n 0, 1, 0, 0, 0, 0, []),
  (40, .bipush 6, 2, 0, 0, 0, 6, []),
  (42, .if_icmp .ne 7, 3, 0, 0, 0, 0, []),
  (45, .iconst 1, 1, 0, 0, 0, 1, []),
  (46, .goto 4, 3, 0, 0, 0, 0, []),
  (49, .iconst 0, 1, 0, 0, 0, 0, []),
  (50, .ireturn, 1, 1, 0, 0, 0, [])]
def rm_X5_isUnder : rv_M := (yX5_isUnder, cX5_isUnder, 2, some .boolean, 99, 0, 0, rc_X5_isUnder)
def rc_X5_as : rv_C := [
  (0, .iload_n 1, 1, 0, 0, 0, 0, []),
  (1, .i2l, 1, 0, 0, 0, 0, []),
  (2, .lconst 0, 1, 0, 0, 0, 0, []),
  (3, .ldc2_w 157, 3, 0, 0, 978, 9, []),
  (6, .invokestatic 49, 3, 107, 13, 796, 0, []),
  (9, .ifCond .eq 15, 3, 0, 0, 0, 0, []),
  (12, .iload_n 2, 1, 0, 0, 0, 0, []),
  (13, .i2l, 1, 0, 0, 0, 0, []),
  (14, .lconst 0, 1, 0, 0, 0, 0, []),
  (15, .ldc2_w 68, 3, 0, 0, 823, 6, []),
  (18, .invokestatic 49, 3, 107, 13, 796, 0, []),
  (21, .ifCond .ne 10, 3, 0, 0, 0, 0, []),
  (24, .aload_n 0, 1, 0, 0, 0, 0, []),
  (25, .ldc 37, 2, 0, 0, 803, -1000001, []),
  (27, .invokevirtual 39, 3, 108, 9, 804, 0, []),
  (30, .ireturn, 1, 0, 0, 0, 0, []),
  (31, .aload_n 0, 1, 0, 0, 0, 0, []),
  (32, .getfield 7, 3, 4, 3, 739, 0, []),
  (35, .bipush 86, 2, 0, 0, 0, 86, []),
  (37, .iload_n 1, 1, 0, 0, 0, 0, []),
  (38, .iadd, 1, 0, 0, 0, 0, []),
  (39, .iaload, 1, 0, 0, 0, 0, []),
  (40, .istore_n 3, 1, 0, 0, 0, 0, []),
  (41, .iload_n 3, 1, 0, 0, 0, 0, []),
  (42, .ifCond .ge 11, 3, 0, 0, 0, 0, []),
  (45, .aload_n 0, 1, 0, 0, 0, 0, []),
  (46, .ldc_w 273, 3, 0, 0, 1039, -1000006, []),
  (49, .invokevirtual 39, 3, 108, 9, 804, 0, []),
  (52, .ireturn, 1, 0, 0, 0, 0, []),
  (53, .aload_n 0, 1, 0, 0, 0, 0, []),
  (54, .iload_n 3, 1, 0, 0, 0, 0, []),
  (55, .iconst 0, 1, 0, 0, 0, 0, []),
  (56, .invokevirtual 65, 3, 114, 13, 828, 0, []),
  (59, .iload_n 2, 1, 0, 0, 0, 0, []),
  (60, .invokestatic 274, 3, 195, 9, 1161, 0, []),
  (63, .ifCond .eq 7, 3, 0, 0, 0, 0, []),
  (66, .iload_n 3, 1, 0, 0, 0, 0, []),
  (67, .goto 10, 3, 0, 0, 0, 0, []),
  (70, .aload_n 0, 1, 0, 0, 0, 0, []),
  (71, .ldc_w 277, 3, 0, 0, 1164, -1000003, []),
  (74, .invokevirtual 39, 3, 108, 9, 804, 0, []),
  (77, .ireturn, 1, 0, 0, 0, 0, [])]
def rm_X5_as : rv_M := (yX5_as, cX5_as, 4, some .int, 4, 1, 25, rc_X5_as)
def rc_X5_isSheet : rv_C := [
  (0, .iload_n 0, 1, 0, 0, 0, 0, []),
  (1, .ifCond .lt 12, 3, 0, 0, 0, 0, []),
  (4, .iload_n 0, 1, 0, 0, 0, 0, []),
  (5, .iconst 4, 1, 0, 0, 0, 4, []),
  (6, .if_icmp .ge 7, 3, 0, 0, 0, 0, []),
  (9, .iconst 1, 1, 0, 0, 0, 1, []),
  (10, .goto 4, 3, 0, 0, 0, 0, []),
  (13, .iconst 0, 1, 0, 0, 0, 0, []),
  (14, .ireturn, 1, 1, 0, 0, 0, [])]
def rm_X5_isSheet : rv_M := (yX5_isSheet, cX5_isSheet, 1, some .boolean, 99, 0, 0, rc_X5_isSheet)
def rc_X5_sheet : rv_C := [
  (0, .iload_n 1, 1, 0, 0, 0, 0, []),
  (1, .invokestatic 278, 3, 197, 5, 1036, 0, []),
  (4, .ifCond .eq 25, 3, 0, 0, 0, 0, []),
  (7, .iload_n 2, 1, 0, 0, 0, 0, []),
  (8, .ifCond .eq 28, 3, 0, 0, 0, 0, []),
  (11, .iload_n 2, 1, 0, 0, 0, 0, []),
  (12, .bipush 8, 2, 0, 0, 0, 8, []),
  (14, .if_icmp .eq 22, 3, 0, 0, 0, 0, []),
  (17, .iload_n 2, 1, 0, 0, 0, 0, []),
  (18, .bipush 16, 2, 0, 0, 0, 16, []),
  (20, .if_icmp .eq 16, 3, 0, 0, 0, 0, []),
  (23, .iload_n 2, 1, 0, 0, 0, 0, []),
  (24, .bipush 32, 2, 0, 0, 0, 32, []),
  (26, .if_icmp .eq 10, 3, 0, 0, 0, 0, []),
  (29, .aload_n 0, 1, 0, 0, 0, 0, []),
  (30, .ldc 37, 2, 0, 0, 803, -1000001, []),
  (32, .invokevirtual 39, 3, 108, 9, 804, 0, []),
  (35, .ireturn, 1, 0, 0, 0, 0, []),
  (36, .iload_n 3, 1, 0, 0, 0, 0, []),
  (37, .ifCond .ge 11, 3, 0, 0, 0, 0, []),
  (40, .aload_n 0, 1, 0, 0, 0, 0, []),
  (41, .ldc_w 281, 3, 0, 0, 1169, -1000007, []),
  (44, .invokevirtual 39, 3, 108, 9, 804, 0, []),
  (47, .ireturn, 1, 0, 0, 0, 0, []),
  (48, .iload_n 3, 1, 0, 0, 0, 0, []),
  (49, .bipush 40, 2, 0, 0, 0, 40, []),
  (51, .if_icmp .le 10, 3, 0, 0, 0, 0, []),
  (54, .aload_n 0, 1, 0, 0, 0, 0, []),
  (55, .ldc 37, 2, 0, 0, 803, -1000001, []),
  (57, .invokevirtual 39, 3, 108, 9, 804, 0, []),
  (60, .ireturn, 1, 0, 0, 0, 0, []),
  (61, .aload_n 0, 1, 0, 0, 0, 0, []),
  (62, .getfield 28, 3, 4, 83, 747, 0, []),
  (65, .iload_n 1, 1, 0, 0, 0, 0, []),
  (66, .iload_n 2, 1, 0, 0, 0, 0, []),
  (67, .ifCond .ne 7, 3, 0, 0, 0, 0, []),
  (70, .iconst (-1), 1, 0, 0, 0, -1, []),
  (71, .goto 4, 3, 0, 0, 0, 0, []),
  (74, .iload_n 2, 1, 0, 0, 0, 0, []),
  (75, .iastore, 1, 0, 0, 0, 0, []),
  (76, .aload_n 0, 1, 0, 0, 0, 0, []),
  (77, .getfield 31, 3, 4, 93, 748, 0, []),
  (80, .iload_n 1, 1, 0, 0, 0, 0, []),
  (81, .iload_n 2, 1, 0, 0, 0, 0, []),
  (82, .ifCond .ne 7, 3, 0, 0, 0, 0, []),
  (85, .iconst 0, 1, 0, 0, 0, 0, []),
  (86, .goto 4, 3, 0, 0, 0, 0, []),
  (89, .iload_n 3, 1, 0, 0, 0, 0, []),
  (90, .iastore, 1, 0, 0, 0, 0, []),
  (91, .iconst 0, 1, 0, 0, 0, 0, []),
  (92, .istore 4, 2, 0, 0, 0, 0, []),
  (94, .iload 4, 2, 0, 0, 0, 0, [2, 3]),
  (96, .bipush 40, 2, 0, 0, 0, 40, []),
  (98, .if_icmp .ge 22, 3, 0, 0, 0, 0, []),
  (101, .aload_n 0, 1, 0, 0, 0, 0, []),
  (102, .getfield 34, 3, 4, 103, 749, 0, []),
  (105, .bipush 40, 2, 0, 0, 0, 40, []),
  (107, .iload_n 1, 1, 0, 0, 0, 0, []),
  (108, .imul, 1, 0, 0, 0, 0, []),
  (109, .iload 4, 2, 0, 0, 0, 0, []),
  (111, .iadd, 1, 0, 0, 0, 0, []),
  (112, .iconst 0, 1, 0, 0, 0, 0, []),
  (113, .iastore, 1, 0, 0, 0, 0, []),
  (114, .iinc 4 1, 3, 0, 0, 0, 1, []),
  (117, .goto (-23), 3, 0, 0, 0, 0, []),
  (120, .aload_n 0, 1, 0, 0, 0, 0, []),
  (121, .getfield 31, 3, 4, 93, 748, 0, []),
  (124, .iload_n 1, 1, 0, 0, 0, 0, []),
  (125, .iaload, 1, 0, 0, 0, 0, []),
  (126, .ireturn, 1, 0, 0, 0, 0, [])]
def rm_X5_sheet : rv_M := (yX5_sheet, cX5_sheet, 5, some .int, 4, 1, 21, rc_X5_sheet)
def rc_X5_write : rv_C := [
  (0, .iload_n 1, 1, 0, 0, 0, 0, []),
  (1, .invokestatic 278, 3, 197, 5, 1036, 0, []),
  (4, .ifCond .ne 10, 3, 0, 0, 0, 0, []),
  (7, .aload_n 0, 1, 0, 0, 0, 0, []),
  (8, .ldc 37, 2, 0, 0, 803, -1000001, []),
  (10, .invokevirtual 39, 3, 108, 9, 804, 0, []),
  (13, .ireturn, 1, 0, 0, 0, 0, []),
  (14, .aload_n 0, 1, 0, 0, 0, 0, []),
  (15, .getfield 28, 3, 4, 83, 747, 0, []),
  (18, .iload_n 1, 1, 0, 0, 0, 0, []),
  (19, .iaload, 1, 0, 0, 0, 0, []),
  (20, .ifCond .ge 11, 3, 0, 0, 0, 0, []),
  (23, .aload_n 0, 1, 0, 0, 0, 0, []),
  (24, .ldc_w 273, 3, 0, 0, 1039, -1000006, []),
  (27, .invokevirtual 39, 3, 108, 9, 804, 0, []),
  (30, .ireturn, 1, 0, 0, 0, 0, []),
  (31, .iload_n 2, 1, 0, 0, 0, 0, []),
  (32, .i2l, 1, 0, 0, 0, 0, []),
  (33, .lconst 0, 1, 0, 0, 0, 0, []),
  (34, .aload_n 0, 1, 0, 0, 0, 0, []),
  (35, .getfield 31, 3, 4, 93, 748, 0, []),
  (38, .iload_n 1, 1, 0, 0, 0, 0, []),
  (39, .iaload, 1, 0, 0, 0, 0, []),
  (40, .iconst 1, 1, 0, 0, 0, 1, []),
  (41, .isub, 1, 0, 0, 0, 0, []),
  (42, .i2l, 1, 0, 0, 0, 0, []),
  (43, .invokestatic 49, 3, 107, 13, 796, 0, []),
  (46, .ifCond .ne 10, 3, 0, 0, 0, 0, []),
  (49, .aload_n 0, 1, 0, 0, 0, 0, []),
  (50, .ldc 37, 2, 0, 0, 803, -1000001, []),
  (52, .invokevirtual 39, 3, 108, 9, 804, 0, []),
  (55, .ireturn, 1, 0, 0, 0, 0, []),
  (56, .aload_n 0, 1, 0, 0, 0, 0, []),
  (57, .getfield 34, 3, 4, 103, 749, 0, []),
  (60, .bipush 40, 2, 0, 0, 0, 40, []),
  (62, .iload_n 1, 1, 0, 0, 0, 0, []),
  (63, .imul, 1, 0, 0, 0, 0, []),
  (64, .iload_n 2, 1, 0, 0, 0, 0, []),
  (65, .iadd, 1, 0, 0, 0, 0, []),
  (66, .aload_n 0, 1, 0, 0, 0, 0, []),
  (67, .getfield 28, 3, 4, 83, 747, 0, []),
  (70, .iload_n 1, 1, 0, 0, 0, 0, []),
  (71, .iaload, 1, 0, 0, 0, 0, []),
  (72, .bipush 8, 2, 0, 0, 0, 8, []),
  (74, .if_icmp .ne 8, 3, 0, 0, 0, 0, []),
  (77, .iload_n 3, 1, 0, 0, 0, 0, []),
  (78, .i2b, 1, 0, 0, 0, 0, []),
  (79, .goto 20, 3, 0, 0, 0, 0, []),
  (82, .aload_n 0, 1, 0, 0, 0, 0, []),
  (83, .getfield 28, 3, 4, 83, 747, 0, []),
  (86, .iload_n 1, 1, 0, 0, 0, 0, []),
  (87, .iaload, 1, 0, 0, 0, 0, []),
  (88, .bipush 16, 2, 0, 0, 0, 16, []),
  (90, .if_icmp .ne 8, 3, 0, 0, 0, 0, []),
  (93, .iload_n 3, 1, 0, 0, 0, 0, []),
  (94, .i2s, 1, 0, 0, 0, 0, []),
  (95, .goto 4, 3, 0, 0, 0, 0, []),
  (98, .iload_n 3, 1, 0, 0, 0, 0, []),
  (99, .iastore, 1, 0, 0, 0, 0, []),
  (100, .iconst 1, 1, 0, 0, 0, 1, []),
  (101, .ireturn, 1, 0, 0, 0, 0, [])]
def rm_X5_write : rv_M := (yX5_write, cX5_write, 4, some .int, 4, 1, 25, rc_X5_write)
def rc_X5_copy : rv_C := [
  (0, .iload_n 1, 1, 0, 0, 0, 0, []),
  (1, .invokestatic 278, 3, 197, 5, 1036, 0, []),
  (4, .ifCond .eq 10, 3, 0, 0, 0, 0, []),
  (7, .iload_n 3, 1, 0, 0, 0, 0, []),
  (8, .invokestatic 278, 3, 197, 5, 1036, 0, []),
  (11, .ifCond .ne 10, 3, 0, 0, 0, 0, []),
  (14, .aload_n 0, 1, 0, 0, 0, 0, []),
  (15, .ldc 37, 2, 0, 0, 803, -1000001, []),
  (17, .invokevirtual 39, 3, 108, 9, 804, 0, []),
  (20, .ireturn, 1, 0, 0, 0, 0, []),
  (21, .aload_n 0, 1, 0, 0, 0, 0, []),
  (22, .getfield 28, 3, 4, 83, 747, 0, []),
  (25, .iload_n 1, 1, 0, 0, 0, 0, []),
  (26, .iaload, 1, 0, 0, 0, 0, []),
  (27, .ifCond .lt 12, 3, 0, 0, 0, 0, []),
  (30, .aload_n 0, 1, 0, 0, 0, 0, []),
  (31, .getfield 28, 3, 4, 83, 747, 0, []),
  (34, .iload_n 3, 1, 0, 0, 0, 0, []),
  (35, .iaload, 1, 0, 0, 0, 0, []),
  (36, .ifCond .ge 11, 3, 0, 0, 0, 0, []),
  (39, .aload_n 0, 1, 0, 0, 0, 0, []),
  (40, .ldc_w 273, 3, 0, 0, 1039, -1000006, []),
  (43, .invokevirtual 39, 3, 108, 9, 804, 0, []),
  (46, .ireturn, 1, 0, 0, 0, 0, []),
  (47, .aload_n 0, 1, 0, 0, 0, 0, []),
  (48, .getfield 28, 3, 4, 83, 747, 0, []),
  (51, .iload_n 1, 1, 0, 0, 0, 0, []),
  (52, .iaload, 1, 0, 0, 0, 0, []),
  (53, .aload_n 0, 1, 0, 0, 0, 0, []),
  (54, .getfield 28, 3, 4, 83, 747, 0, []),
  (57, .iload_n 3, 1, 0, 0, 0, 0, []),
  (58, .iaload, 1, 0, 0, 0, 0, []),
  (59, .if_icmp .eq 11, 3, 0, 0, 0, 0, []),
  (62, .aload_n 0, 1, 0, 0, 0, 0, []),
  (63, .ldc_w 277, 3, 0, 0, 1164, -1000003, []),
  (66, .invokevirtual 39, 3, 108, 9, 804, 0, []),
  (69, .ireturn, 1, 0, 0, 0, 0, []),
  (70, .iload_n 2, 1, 0, 0, 0, 0, []),
  (71, .ifCond .lt 40, 3, 0, 0, 0, 0, []),
  (74, .iload 4, 2, 0, 0, 0, 0, []),
  (76, .ifCond .lt 35, 3, 0, 0, 0, 0, []),
  (79, .iload 5, 2, 0, 0, 0, 0, []),
  (81, .ifCond .lt 30, 3, 0, 0, 0, 0, []),
  (84, .iload 5, 2, 0, 0, 0, 0, []),
  (86, .aload_n 0, 1, 0, 0, 0, 0, []),
  (87, .getfield 31, 3, 4, 93, 748, 0, []),
  (90, .iload_n 1, 1, 0, 0, 0, 0, []),
  (91, .iaload, 1, 0, 0, 0, 0, []),
  (92, .iload_n 2, 1, 0, 0, 0, 0, []),
  (93, .isub, 1, 0, 0, 0, 0, []),
  (94, .if_icmp .gt 17, 3, 0, 0, 0, 0, []),
  (97, .iload 5, 2, 0, 0, 0, 0, []),
  (99, .aload_n 0, 1, 0, 0, 0, 0, []),
  (100, .getfield 31, 3, 4, 93, 748, 0, []),
  (103, .iload_n 3, 1, 0, 0, 0, 0, []),
  (104, .iaload, 1, 0, 0, 0, 0, []),
  (105, .iload 4, 2, 0, 0, 0, 0, []),
  (107, .isub, 1, 0, 0, 0, 0, []),
  (108, .if_icmp .le 10, 3, 0, 0, 0, 0, []),
  (111, .aload_n 0, 1, 0, 0, 0, 0, []),
  (112, .ldc 37, 2, 0, 0, 803, -1000001, []),
  (114, .invokevirtual 39, 3, 108, 9, 804, 0, []),
  (117, .ireturn, 1, 0, 0, 0, 0, []),
  (118, .bipush 40, 2, 0, 0, 0, 40, []),
  (120, .iload_n 1, 1, 0, 0, 0, 0, []),
  (121, .imul, 1, 0, 0, 0, 0, []),
  (122, .iload_n 2, 1, 0, 0, 0, 0, []),
  (123, .iadd, 1, 0, 0, 0, 0, []),
  (124, .istore 6, 2, 0, 0, 0, 0, []),
  (126, .bipush 40, 2, 0, 0, 0, 40, []),
  (128, .iload_n 3, 1, 0, 0, 0, 0, []),
  (129, .imul, 1, 0, 0, 0, 0, []),
  (130, .iload 4, 2, 0, 0, 0, 0, []),
  (132, .iadd, 1, 0, 0, 0, 0, []),
  (133, .istore 7, 2, 0, 0, 0, 0, []),
  (135, .iconst 0, 1, 0, 0, 0, 0, []),
  (136, .istore 8, 2, 0, 0, 0, 0, []),
  (138, .iload 8, 2, 0, 0, 0, 0, [1, 2, 3, 4, 9]),
  (140, .iload 5, 2, 0, 0, 0, 0, []),
  (142, .if_icmp .ge 50, 3, 0, 0, 0, 0, []),
  (145, .iload 6, 2, 0, 0, 0, 0, []),
  (147, .iload 7, 2, 0, 0, 0, 0, []),
  (149, .if_icmp .ge 13, 3, 0, 0, 0, 0, []),
  (152, .iload 5, 2, 0, 0, 0, 0, []),
  (154, .iconst 1, 1, 0, 0, 0, 1, []),
  (155, .isub, 1, 0, 0, 0, 0, []),
  (156, .iload 8, 2, 0, 0, 0, 0, []),
  (158, .isub, 1, 0, 0, 0, 0, []),
  (159, .goto 5, 3, 0, 0, 0, 0, []),
  (162, .iload 8, 2, 0, 0, 0, 0, []),
  (164, .istore 9, 2, 0, 0, 0, 0, []),
  (166, .aload_n 0, 1, 0, 0, 0, 0, []),
  (167, .getfield 34, 3, 4, 103, 749, 0, []),
  (170, .iload 7, 2, 0, 0, 0, 0, []),
  (172, .iload 9, 2, 0, 0, 0, 0, []),
  (174, .iadd, 1, 0, 0, 0, 0, []),
  (175, .aload_n 0, 1, 0, 0, 0, 0, []),
  (176, .getfield 34, 3, 4, 103, 749, 0, []),
  (179, .iload 6, 2, 0, 0, 0, 0, []),
  (181, .iload 9, 2, 0, 0, 0, 0, []),
  (183, .iadd, 1, 0, 0, 0, 0, []),
  (184, .iaload, 1, 0, 0, 0, 0, []),
  (185, .iastore, 1, 0, 0, 0, 0, []),
  (186, .iinc 8 1, 3, 0, 0, 0, 1, []),
  (189, .goto (-51), 3, 0, 0, 0, 0, []),
  (192, .iload 5, 2, 0, 0, 0, 0, []),
  (194, .ireturn, 1, 0, 0, 0, 0, [])]
def rm_X5_copy : rv_M := (yX5_copy, cX5_copy, 10, some .int, 4, 1, 21, rc_X5_copy)
def rc_X5_wants : rv_C := [
  (0, .iload_n 1, 1, 0, 0, 0, 0, []),
  (1, .invokestatic 278, 3, 197, 5, 1036, 0, []),
  (4, .ifCond .ne 8, 3, 0, 0, 0, 0, []),
  (7, .ldc 37, 2, 0, 0, 803, -1000001, []),
  (9, .goto 19, 3, 0, 0, 0, 0, []),
  (12, .aload_n 0, 1, 0, 0, 0, 0, []),
  (13, .getfield 28, 3, 4, 83, 747, 0, []),
  (16, .iload_n 1, 1, 0, 0, 0, 0, []),
  (17, .iaload, 1, 0, 0, 0, 0, []),
  (18, .ifCond .ge 9, 3, 0, 0, 0, 0, []),
  (21, .ldc_w 273, 3, 0, 0, 1039, -1000006, []),
  (24, .goto 4, 3, 0, 0, 0, 0, []),
  (27, .iconst 0, 1, 0, 0, 0, 0, []),
  (28, .ireturn, 1, 0, 0, 0, 0, [])]
def rm_X5_wants : rv_M := (yX5_wants, cX5_wants, 2, some .int, 4, 1, 20, rc_X5_wants)
def rc_X5_load : rv_C := [
  (0, .aload_n 0, 1, 0, 0, 0, 0, []),
  (1, .iload_n 1, 1, 0, 0, 0, 0, []),
  (2, .invokevirtual 176, 3, 201, 9, 1032, 0, []),
  (5, .ifCond .eq 13, 3, 0, 0, 0, 0, []),
  (8, .aload_n 0, 1, 0, 0, 0, 0, []),
  (9, .aload_n 0, 1, 0, 0, 0, 0, []),
  (10, .iload_n 1, 1, 0, 0, 0, 0, []),
  (11, .invokevirtual 176, 3, 201, 9, 1032, 0, []),
  (14, .invokevirtual 39, 3, 108, 9, 804, 0, []),
  (17, .ireturn, 1, 0, 0, 0, 0, []),
  (18, .iconst 0, 1, 0, 0, 0, 0, []),
  (19, .istore_n 2, 1, 0, 0, 0, 0, []),
  (20, .iload_n 2, 1, 0, 0, 0, 0, []),
  (21, .aload_n 0, 1, 0, 0, 0, 0, []),
  (22, .getfield 31, 3, 4, 93, 748, 0, []),
  (25, .iload_n 1, 1, 0, 0, 0, 0, []),
  (26, .iaload, 1, 0, 0, 0, 0, []),
  (27, .if_icmp .ge 56, 3, 0, 0, 0, 0, []),
  (30, .iload_n 2, 1, 0, 0, 0, 0, []),
  (31, .bipush 10, 2, 0, 0, 0, 10, []),
  (33, .if_icmp .ge 50, 3, 0, 0, 0, 0, []),
  (36, .aload_n 0, 1, 0, 0, 0, 0, []),
  (37, .getfield 34, 3, 4, 103, 749, 0, []),
  (40, .bipush 40, 2, 0, 0, 0, 40, []),
  (42, .iload_n 1, 1, 0, 0, 0, 0, []),
  (43, .imul, 1, 0, 0, 0, 0, []),
  (44, .iload_n 2, 1, 0, 0, 0, 0, []),
  (45, .iadd, 1, 0, 0, 0, 0, []),
  (46, .iaload, 1, 0, 0, 0, 0, []),
  (47, .i2l, 1, 0, 0, 0, 0, []),
  (48, .lconst 0, 1, 0, 0, 0, 0, []),
  (49, .ldc2_w 47, 3, 0, 0, 795, 99, []),
  (52, .invokestatic 49, 3, 107, 13, 796, 0, []),
  (55, .ifCond .eq 28, 3, 0, 0, 0, 0, []),
  (58, .aload_n 0, 1, 0, 0, 0, 0, []),
  (59, .getfield 7, 3, 4, 3, 739, 0, []),
  (62, .iconst 4, 1, 0, 0, 0, 4, []),
  (63, .iload_n 2, 1, 0, 0, 0, 0, []),
  (64, .iadd, 1, 0, 0, 0, 0, []),
  (65, .aload_n 0, 1, 0, 0, 0, 0, []),
  (66, .getfield 34, 3, 4, 103, 749, 0, []),
  (69, .bipush 40, 2, 0, 0, 0, 40, []),
  (71, .iload_n 1, 1, 0, 0, 0, 0, []),
  (72, .imul, 1, 0, 0, 0, 0, []),
  (73, .iload_n 2, 1, 0, 0, 0, 0, []),
  (74, .iadd, 1, 0, 0, 0, 0, []),
  (75, .iaload, 1, 0, 0, 0, 0, []),
  (76, .iastore, 1, 0, 0, 0, 0, []),
  (77, .iinc 2 1, 3, 0, 0, 0, 1, []),
  (80, .goto (-60), 3, 0, 0, 0, 0, []),
  (83, .iload_n 2, 1, 0, 0, 0, 0, []),
  (84, .ireturn, 1, 0, 0, 0, 0, [])]
def rm_X5_load : rv_M := (yX5_load, cX5_load, 3, some .int, 4, 2, 41, rc_X5_load)
def rc_X5_judge : rv_C := [
  (0, .aload_n 0, 1, 0, 0, 0, 0, []),
  (1, .iload_n 1, 1, 0, 0, 0, 0, []),
  (2, .invokevirtual 176, 3, 201, 9, 1032, 0, []),
  (5, .ifCond .eq 13, 3, 0, 0, 0, 0, []),
  (8, .aload_n 0, 1, 0, 0, 0, 0, []),
  (9, .aload_n 0, 1, 0, 0, 0, 0, []),
  (10, .iload_n 1, 1, 0, 0, 0, 0, []),
  (11, .invokevirtual 176, 3, 201, 9, 1032, 0, []),
  (14, .invokevirtual 39, 3, 108, 9, 804, 0, []),
  (17, .ireturn, 1, 0, 0, 0, 0, []),
  (18, .iconst 0, 1, 0, 0, 0, 0, []),
  (19, .istore_n 2, 1, 0, 0, 0, 0, []),
  (20, .iload_n 2, 1, 0, 0, 0, 0, []),
  (21, .aload_n 0, 1, 0, 0, 0, 0, []),
  (22, .getfield 31, 3, 4, 93, 748, 0, []),
  (25, .iload_n 1, 1, 0, 0, 0, 0, []),
  (26, .iaload, 1, 0, 0, 0, 0, []),
  (27, .if_icmp .ge 37, 3, 0, 0, 0, 0, []),
  (30, .aload_n 0, 1, 0, 0, 0, 0, []),
  (31, .iload_n 2, 1, 0, 0, 0, 0, []),
  (32, .invokevirtual 90, 3, 113, 9, 861, 0, []),
  (35, .ifCond .eq 29, 3, 0, 0, 0, 0, []),
  (38, .aload_n 0, 1, 0, 0, 0, 0, []),
  (39, .getfield 34, 3, 4, 103, 749, 0, []),
  (42, .bipush 40, 2, 0, 0, 0, 40, []),
  (44, .iload_n 1, 1, 0, 0, 0, 0, []),
  (45, .imul, 1, 0, 0, 0, 0, []),
  (46, .iload_n 2, 1, 0, 0, 0, 0, []),
  (47, .iadd, 1, 0, 0, 0, 0, []),
  (48, .iaload, 1, 0, 0, 0, 0, []),
  (49, .aload_n 0, 1, 0, 0, 0, 0, []),
  (50, .iload_n 2, 1, 0, 0, 0, 0, []),
  (51, .iconst 3, 1, 0, 0, 0, 3, []),
  (52, .invokevirtual 65, 3, 114, 13, 828, 0, []),
  (55, .if_icmp .ne 9, 3, 0, 0, 0, 0, []),
  (58, .iinc 2 1, 3, 0, 0, 0, 1, []),
  (61, .goto (-41), 3, 0, 0, 0, 0, []),
  (64, .iload_n 2, 1, 0, 0, 0, 0, []),
  (65, .aload_n 0, 1, 0, 0, 0, 0, []),
  (66, .getfield 31, 3, 4, 93, 748, 0, []),
  (69, .iload_n 1, 1, 0, 0, 0, 0, []),
  (70, .iaload, 1, 0, 0, 0, 0, []),
  (71, .if_icmp .ge 9, 3, 0, 0, 0, 0, []),
  (74, .iconst 1, 1, 0, 0, 0, 1, []),
  (75, .iload_n 2, 1, 0, 0, 0, 0, []),
  (76, .iadd, 1, 0, 0, 0, 0, []),
  (77, .goto 4, 3, 0, 0, 0, 0, []),
  (80, .iconst 0, 1, 0, 0, 0, 0, []),
  (81, .ireturn, 1, 0, 0, 0, 0, [])]
def rm_X5_judge : rv_M := (yX5_judge, cX5_judge, 3, some .int, 4, 2, 41, rc_X5_judge)
def rc_X5_image : rv_C := [
  (0, .aload_n 0, 1, 0, 0, 0, 0, []),
  (1, .getfield 7, 3, 4, 3, 739, 0, []),
  (4, .aload_n 0, 1, 0, 0, 0, 0, []),
  (5, .getfield 13, 3, 4, 13, 740, 0, []),
  (8, .invokestatic 144, 3, 110, 8, 946, 0, []),
  (11, .aload_n 0, 1, 0, 0, 0, 0, []),
  (12, .iconst 1, 1, 0, 0, 0, 1, []),
  (13, .putfield 282, 3, 4, 42, 743, 0, []),
  (16, .iconst 1, 1, 0, 0, 0, 1, []),
  (17, .ireturn, 1, 0, 0, 0, 0, [])]
def rm_X5_image : rv_M := (yX5_image, cX5_image, 1, some .int, 4, 1, 22, rc_X5_image)
def rc_X5_undo : rv_C := [
  (0, .aload_n 0, 1, 0, 0, 0, 0, []),
  (1, .getfield 282, 3, 4, 41, 743, 0, []),
  (4, .ifCond .ne 10, 3, 0, 0, 0, 0, []),
  (7, .aload_n 0, 1, 0, 0, 0, 0, []),
  (8, .ldc 38, 2, 0, 0, 969, -1000004, []),
  (10, .invokevirtual 39, 3, 108, 9, 804, 0, []),
  (13, .ireturn, 1, 0, 0, 0, 0, []),
  (14, .aload_n 0, 1, 0, 0, 0, 0, []),
  (15, .getfield 13, 3, 4, 13, 740, 0, []),
  (18, .aload_n 0, 1, 0, 0, 0, 0, []),
  (19, .getfield 7, 3, 4, 3, 739, 0, []),
  (22, .invokestatic 144, 3, 110, 8, 946, 0, []),
  (25, .aload_n 0, 1, 0, 0, 0, 0, []),
  (26, .getfield 7, 3, 4, 3, 739, 0, []),
  (29, .iconst 1, 1, 0, 0, 0, 1, []),
  (30, .iaload, 1, 0, 0, 0, 0, []),
  (31, .ireturn, 1, 0, 0, 0, 0, [])]
def rm_X5_undo : rv_M := (yX5_undo, cX5_undo, 1, some .int, 4, 1, 22, rc_X5_undo)
def rc_X5_tear : rv_C := [
  (0, .aload_n 0, 1, 0, 0, 0, 0, []),
  (1, .getfield 282, 3, 4, 41, 743, 0, []),
  (4, .istore_n 1, 1, 0, 0, 0, 0, []),
  (5, .aload_n 0, 1, 0, 0, 0, 0, []),
  (6, .iconst 0, 1, 0, 0, 0, 0, []),
  (7, .putfield 282, 3, 4, 42, 743, 0, []),
  (10, .iload_n 1, 1, 0, 0, 0, 0, []),
  (11, .ifCond .eq 7, 3, 0, 0, 0, 0, []),
  (14, .iconst 1, 1, 0, 0, 0, 1, []),
  (15, .goto 4, 3, 0, 0, 0, 0, []),
  (18, .iconst 0, 1, 0, 0, 0, 0, []),
  (19, .ireturn, 1, 0, 0, 0, 0, [])]
def rm_X5_tear : rv_M := (yX5_tear, cX5_tear, 2, some .int, 4, 0, 0, rc_X5_tear)
def rc_X5_count : rv_C := [
  (0, .iconst 0, 1, 0, 0, 0, 0, []),
  (1, .istore_n 2, 1, 0, 0, 0, 0, []),
  (2, .iload_n 1, 1, 0, 0, 0, 0, []),
  (3, .tableswitch 156 0 7 #[45, 52, 59, 91, 99, 108, 113, 120], 45, 0, 0, 0, 0, []),
  (48, .aload_n 0, 1, 0, 0, 0, 0, []),
  (49, .getfield 7, 3, 4, 3, 739, 0, []),
  (52, .iconst 1, 1, 0, 0, 0, 1, []),
  (53, .iaload, 1, 0, 0, 0, 0, []),
  (54, .ireturn, 1, 0, 0, 0, 0, []),
  (55, .aload_n 0, 1, 0, 0, 0, 0, []),
  (56, .getfield 7, 3, 4, 3, 739, 0, []),
  (59, .iconst 0, 1, 0, 0, 0, 0, []),
  (60, .iaload, 1, 0, 0, 0, 0, []),
  (61, .ireturn, 1, 0, 0, 0, 0, []),
  (62, .iconst 0, 1, 0, 0, 0, 0, []),
  (63, .istore_n 3, 1, 0, 0, 0, 0, []),
  (64, .iload_n 3, 1, 0, 0, 0, 0, [1]),
  (65, .aload_n 0, 1, 0, 0, 0, 0, []),
  (66, .getfield 7, 3, 4, 3, 739, 0, []),
  (69, .iconst 0, 1, 0, 0, 0, 0, []),
  (70, .iaload, 1, 0, 0, 0, 0, []),
  (71, .if_icmp .ge 21, 3, 0, 0, 0, 0, []),
  (74, .iload_n 2, 1, 0, 0, 0, 0, []),
  (75, .aload_n 0, 1, 0, 0, 0, 0, []),
  (76, .iload_n 3, 1, 0, 0, 0, 0, []),
  (77, .iconst 3, 1, 0, 0, 0, 3, []),
  (78, .invokevirtual 65, 3, 114, 13, 828, 0, []),
  (81, .invokestatic 84, 3, 116, 5, 870, 0, []),
  (84, .iadd, 1, 0, 0, 0, 0, []),
  (85, .istore_n 2, 1, 0, 0, 0, 0, []),
  (86, .iinc 3 1, 3, 0, 0, 0, 1, []),
  (89, .goto (-25), 3, 0, 0, 0, 0, []),
  (92, .iload_n 2, 1, 0, 0, 0, 0, []),
  (93, .ireturn, 1, 0, 0, 0, 0, []),
  (94, .aload_n 0, 1, 0, 0, 0, 0, []),
  (95, .iconst 4, 1, 0, 0, 0, 4, []),
  (96, .bipush 10, 2, 0, 0, 0, 10, []),
  (98, .invokevirtual 127, 3, 141, 13, 924, 0, []),
  (101, .ireturn, 1, 0, 0, 0, 0, []),
  (102, .aload_n 0, 1, 0, 0, 0, 0, []),
  (103, .bipush 14, 2, 0, 0, 0, 14, []),
  (105, .bipush 40, 2, 0, 0, 0, 40, []),
  (107, .invokevirtual 127, 3, 141, 13, 924, 0, []),
  (110, .ireturn, 1, 0, 0, 0, 0, []),
  (111, .aload_n 0, 1, 0, 0, 0, 0, []),
  (112, .getfield 191, 3, 4, 71, 746, 0, []),
  (115, .ireturn, 1, 0, 0, 0, 0, []),
  (116, .aload_n 0, 1, 0, 0, 0, 0, []),
  (117, .getfield 7, 3, 4, 3, 739, 0, []),
  (120, .iconst 3, 1, 0, 0, 0, 3, []),
  (121, .iaload, 1, 0, 0, 0, 0, []),
  (122, .ireturn, 1, 0, 0, 0, 0, []),
  (123, .iconst 0, 1, 0, 0, 0, 0, []),
  (124, .istore_n 3, 1, 0, 0, 0, 0, []),
  (125, .iload_n 3, 1, 0, 0, 0, 0, [1]),
  (126, .bipush 10, 2, 0, 0, 0, 10, []),
  (128, .if_icmp .ge 29, 3, 0, 0, 0, 0, []),
  (131, .iload_n 2, 1, 0, 0, 0, 0, []),
  (132, .aload_n 0, 1, 0, 0, 0, 0, []),
  (133, .getfield 7, 3, 4, 3, 739, 0, []),
  (136, .bipush 86, 2, 0, 0, 0, 86, []),
  (138, .iload_n 3, 1, 0, 0, 0, 0, []),
  (139, .iadd, 1, 0, 0, 0, 0, []),
  (140, .iaload, 1, 0, 0, 0, 0, []),
  (141, .ifCond .ge 7, 3, 0, 0, 0, 0, []),
  (144, .iconst 0, 1, 0, 0, 0, 0, []),
  (145, .goto 4, 3, 0, 0, 0, 0, []),
  (148, .iconst 1, 1, 0, 0, 0, 1, []),
  (149, .iadd, 1, 0, 0, 0, 0, []),
  (150, .istore_n 2, 1, 0, 0, 0, 0, []),
  (151, .iinc 3 1, 3, 0, 0, 0, 1, []),
  (154, .goto (-29), 3, 0, 0, 0, 0, []),
  (157, .iload_n 2, 1, 0, 0, 0, 0, []),
  (158, .ireturn, 1, 0, 0, 0, 0, []),
  (159, .aload_n 0, 1, 0, 0, 0, 0, []),
  (160, .ldc 37, 2, 0, 0, 803, -1000001, []),
  (162, .invokevirtual 39, 3, 108, 9, 804, 0, []),
  (165, .ireturn, 1, 0, 0, 0, 0, [])]
def rm_X5_count : rv_M := (yX5_count, cX5_count, 4, some .int, 4, 1, 24, rc_X5_count)
def rc_X5_status : rv_C := [
  (0, .iload_n 1, 1, 0, 0, 0, 0, []),
  (1, .i2l, 1, 0, 0, 0, 0, []),
  (2, .ldc2_w 286, 3, 0, 0, 1206, -1, []),
  (5, .ldc2_w 68, 3, 0, 0, 823, 6, []),
  (8, .invokestatic 49, 3, 107, 13, 796, 0, []),
  (11, .ifCond .eq 14, 3, 0, 0, 0, 0, []),
  (14, .aload_n 0, 1, 0, 0, 0, 0, []),
  (15, .getfield 22, 3, 4, 53, 744, 0, []),
  (18, .iload_n 1, 1, 0, 0, 0, 0, []),
  (19, .iconst 1, 1, 0, 0, 0, 1, []),
  (20, .iadd, 1, 0, 0, 0, 0, []),
  (21, .iaload, 1, 0, 0, 0, 0, []),
  (22, .goto 9, 3, 0, 0, 0, 0, []),
  (25, .aload_n 0, 1, 0, 0, 0, 0, []),
  (26, .ldc 37, 2, 0, 0, 803, -1000001, []),
  (28, .invokevirtual 39, 3, 108, 9, 804, 0, []),
  (31, .ireturn, 1, 0, 0, 0, 0, [])]
def rm_X5_status : rv_M := (yX5_status, cX5_status, 2, some .int, 4, 1, 25, rc_X5_status)
def rc_J6_bitCount_0f7a4 : rv_C := [
  (0, .iload_n 0, 1, 0, 0, 0, 0, []),
  (1, .iload_n 0, 1, 0, 0, 0, 0, []),
  (2, .iconst 1, 1, 0, 0, 0, 1, []),
  (3, .iushr, 1, 0, 0, 0, 0, []),
  (4, .ldc_w 265, 3, 0, 0, 305, 1431655765, []),
  (7, .iand, 1, 0, 0, 0, 0, []),
  (8, .isub, 1, 0, 0, 0, 0, []),
  (9, .istore_n 0, 1, 0, 0, 0, 0, []),
  (10, .iload_n 0, 1, 0, 0, 0, 0, []),
  (11, .ldc_w 266, 3, 0, 0, 306, 858993459, []),
  (14, .iand, 1, 0, 0, 0, 0, []),
  (15, .iload_n 0, 1, 0, 0, 0, 0, []),
  (16, .iconst 2, 1, 0, 0, 0, 2, []),
  (17, .iushr, 1, 0, 0, 0, 0, []),
  (18, .ldc_w 266, 3, 0, 0, 306, 858993459, []),
  (21, .iand, 1, 0, 0, 0, 0, []),
  (22, .iadd, 1, 0, 0, 0, 0, []),
  (23, .istore_n 0, 1, 0, 0, 0, 0, []),
  (24, .iload_n 0, 1, 0, 0, 0, 0, []),
  (25, .iload_n 0, 1, 0, 0, 0, 0, []),
  (26, .iconst 4, 1, 0, 0, 0, 4, []),
  (27, .iushr, 1, 0, 0, 0, 0, []),
  (28, .iadd, 1, 0, 0, 0, 0, []),
  (29, .ldc_w 267, 3, 0, 0, 307, 252645135, []),
  (32, .iand, 1, 0, 0, 0, 0, []),
  (33, .istore_n 0, 1, 0, 0, 0, 0, []),
  (34, .iload_n 0, 1, 0, 0, 0, 0, []),
  (35, .iload_n 0, 1, 0, 0, 0, 0, []),
  (36, .bipush 8, 2, 0, 0, 0, 8, []),
  (38, .iushr, 1, 0, 0, 0, 0, []),
  (39, .iadd, 1, 0, 0, 0, 0, []),
  (40, .istore_n 0, 1, 0, 0, 0, 0, []),
  (41, .iload_n 0, 1, 0, 0, 0, 0, []),
  (42, .iload_n 0, 1, 0, 0, 0, 0, []),
  (43, .bipush 16, 2, 0, 0, 0, 16, []),
  (45, .iushr, 1, 0, 0, 0, 0, []),
  (46, .iadd, 1, 0, 0, 0, 0, []),
  (47, .istore_n 0, 1, 0, 0, 0, 0, []),
  (48, .iload_n 0, 1, 0, 0, 0, 0, []),
  (49, .bipush 63, 2, 0, 0, 0, 63, []),
  (51, .iand, 1, 0, 0, 0, 0, []),
  (52, .ireturn, 1, 0, 0, 0, 0, [])]
def rm_J6_bitCount_0f7a4 : rv_M := (yJ6_bitCount_0f7a4, cJ6_bitCount_0f7a4, 1, some .int, 99, 0, 0, rc_J6_bitCount_0f7a4)
def rc_J0_length_8abf5 : rv_C := [
  (0, .aload_n 0, 1, 0, 0, 0, 0, []),
  (1, .getfield 9, 3, 0, 4, 1207, 0, []),
  (4, .arraylength, 1, 0, 0, 0, 0, []),
  (5, .aload_n 0, 1, 0, 0, 0, 0, []),
  (6, .invokevirtual 335, 3, 212, 5, 583, 0, []),
  (9, .ishr, 1, 0, 0, 0, 0, []),
  (10, .ireturn, 1, 0, 0, 0, 0, [])]
def rm_J0_length_8abf5 : rv_M := (yJ0_length_8abf5, cJ0_length_8abf5, 1, some .int, 98, 1, 20, rc_J0_length_8abf5)
def rc_J0_charAt_5068e : rv_C := [
  (0, .aload_n 0, 1, 0, 0, 0, 0, []),
  (1, .invokevirtual 492, 3, 213, 5, 593, 0, []),
  (4, .ifCond .eq 12, 3, 0, 0, 0, 0, []),
  (7, .aload_n 0, 1, 0, 0, 0, 0, []),
  (8, .getfield 9, 3, 0, 4, 1207, 0, []),
  (11, .iload_n 1, 1, 0, 0, 0, 0, []),
  (12, .invokestatic 495, 3, 215, 9, 597, 0, []),
  (15, .ireturn, 1, 3, 0, 0, 0, [])]
def rm_J0_charAt_5068e : rv_M := (yJ0_charAt_5068e, cJ0_charAt_5068e, 2, some .char, 98, 3, 64, rc_J0_charAt_5068e)
def rc_J0_coder_7d493 : rv_C := [
  (0, .getstatic 38, 3, 1, 0, 587, 0, []),
  (3, .ifCond .eq 10, 3, 0, 0, 0, 0, []),
  (6, .aload_n 0, 1, 0, 0, 0, 0, []),
  (7, .getfield 15, 3, 0, 5, 1208, 0, []),
  (10, .goto 4, 3, 0, 0, 0, 0, []),
  (14, .ireturn, 1, 2, 0, 0, 0, [])]
def rm_J0_coder_7d493 : rv_M := (yJ0_coder_7d493, cJ0_coder_7d493, 1, some .byte, 98, 0, 0, rc_J0_coder_7d493)
def rc_J0_isLatin1_aae02 : rv_C := [
  (0, .getstatic 38, 3, 1, 0, 587, 0, []),
  (3, .ifCond .eq 14, 3, 0, 0, 0, 0, []),
  (6, .aload_n 0, 1, 0, 0, 0, 0, []),
  (7, .getfield 15, 3, 0, 5, 1208, 0, []),
  (10, .ifCond .ne 7, 3, 0, 0, 0, 0, []),
  (13, .iconst 1, 1, 0, 0, 0, 1, []),
  (14, .goto 4, 3, 0, 0, 0, 0, []),
  (17, .iconst 0, 1, 0, 0, 0, 0, []),
  (18, .ireturn, 1, 1, 0, 0, 0, [])]
def rm_J0_isLatin1_aae02 : rv_M := (yJ0_isLatin1_aae02, cJ0_isLatin1_aae02, 1, some .boolean, 98, 0, 0, rc_J0_isLatin1_aae02)
def rc_J0_checkIndex_df160 : rv_C := [
  (0, .iload_n 0, 1, 0, 0, 0, 0, []),
  (1, .iload_n 1, 1, 0, 0, 0, 0, []),
  (2, .getstatic 1053, 3, 2, 0, 603, 0, []),
  (5, .invokestatic 1059, 3, 216, 13, 605, 0, []),
  (8, .pop, 1, 0, 0, 0, 0, []),
  (9, .return_, 1, 0, 0, 0, 0, [])]
def rm_J0_checkIndex_df160 : rv_M := (yJ0_checkIndex_df160, cJ0_checkIndex_df160, 2, none, 99, 1, 22, rc_J0_checkIndex_df160)
def rc_J1_charAt_3b067 : rv_C := [
  (0, .iload_n 1, 1, 0, 0, 0, 0, []),
  (1, .aload_n 0, 1, 0, 0, 0, 0, []),
  (2, .arraylength, 1, 0, 0, 0, 0, []),
  (3, .invokestatic 9, 3, 214, 8, 600, 0, []),
  (6, .aload_n 0, 1, 0, 0, 0, 0, []),
  (7, .iload_n 1, 1, 0, 0, 0, 0, []),
  (8, .baload, 1, 0, 0, 0, 0, []),
  (9, .sipush 255, 3, 0, 0, 0, 255, []),
  (12, .iand, 1, 0, 0, 0, 0, []),
  (13, .i2c, 1, 0, 0, 0, 0, []),
  (14, .ireturn, 1, 3, 0, 0, 0, [])]
def rm_J1_charAt_3b067 : rv_M := (yJ1_charAt_3b067, cJ1_charAt_3b067, 2, some .char, 99, 2, 43, rc_J1_charAt_3b067)
def rc_J3_checkIndex_8e157 : rv_C := [
  (0, .iload_n 0, 1, 0, 0, 0, 0, []),
  (1, .ifCond .lt 8, 3, 0, 0, 0, 0, []),
  (4, .iload_n 0, 1, 0, 0, 0, 0, []),
  (5, .iload_n 1, 1, 0, 0, 0, 0, []),
  (6, .if_icmp .lt 10, 3, 0, 0, 0, 0, []),
  (16, .iload_n 0, 1, 0, 0, 0, 0, []),
  (17, .ireturn, 1, 0, 0, 0, 0, [])]
def rm_J3_checkIndex_8e157 : rv_M := (yJ3_checkIndex_8e157, cJ3_checkIndex_8e157, 3, some .int, 99, 0, 0, rc_J3_checkIndex_8e157)
def rv_ms : List rv_M := [rm_X0_isKind, rm_X0_isUnder, rm_X0_adds, rm_X0_cools, rm_X0_nose, rm_X1_begin, rm_X1_isMissing, rm_X1_hasSpan, rm_X1_put, rm_X2_take, rm_X2_hasBather, rm_X2_isFull, rm_X2_addBather, rm_X2_rowOf, rm_X2_changePlaces, rm_X2_scentIn, rm_X2_setScent, rm_X2_scentsIn, rm_X2_pullPlug, rm_X2_nextDraw, rm_X2_passHours, rm_X2_passHour, rm_X2_stepFurther, rm_X2_letWaterDown, rm_X2_isHere, rm_X2_bathe, rm_X2_addsOf, rm_X2_smelledBy, rm_X2_whoIsIn, rm_X2_whoKnow, rm_X2_whoKnowAll, rm_X2_whoAreUnknown, rm_X2_knownPairs, rm_X2_tubsBelow, rm_X2_emptyTubs, rm_X2_allWarmth, rm_X2_allScents, rm_X2_heldSpots, rm_X3_readText, rm_X3_readItem, rm_X3_readBather, rm_X3_readTub, rm_X3_kindAtHand, rm_X3_kindWord, rm_X3_isAtHand, rm_X3_passWord, rm_X3_passNumber, rm_X3_readToken, rm_X3_byteAt, rm_X3_isLetter, rm_X3_isDigit, rm_X4_warm, rm_X4_scent, rm_X4_tub, rm_X4_fresh, rm_X4_plug, rm_X4_bather, rm_X4_of, rm_X4_change, rm_X4_swap, rm_X4_go, rm_X4_now, rm_X4_ahead, rm_X4_knows, rm_X4_when, rm_X4_cold, rm_X4_left, rm_X4_needed, rm_X4_swapFor, rm_X4_seat, rm_X4_kindFor, rm_X4_freshFor, rm_X4_hides, rm_X4_leave, rm_X4_plugFor, rm_X4_fits, rm_X4_kinds, rm_X4_plugs, rm_X4_odds, rm_X4_seed, rm_X4_feed, rm_X4_wipe, rm_X4_text, rm_X4_hold, rm_X4_as, rm_X4_sheet, rm_X4_write, rm_X4_copy, rm_X4_load, rm_X4_judge, rm_X4_image, rm_X4_undo, rm_X4_tear, rm_X4_count, rm_X4_status, rm_X4_finding, rm_X4_isWithin, rm_X4_isTub, rm_X4_isScent, rm_X4_isSpot, rm_X4_isSheet, rm_X4_mostOf, rm_X4_greatestCommonPart, rm_X4_lackOf, rm_X4_hoursUntilKnown, rm_X4_isLearned, rm_X4_comesOutAs, rm_X5_isIn, rm_X5_finds, rm_X5_becomes, rm_X5_copyRow, rm_X5_isTub, rm_X5_isScent, rm_X5_isBather, rm_X5_its, rm_X5_orNone, rm_X5_many, rm_X5_warm, rm_X5_placeOf, rm_X5_scent, rm_X5_allIn, rm_X5_there, rm_X5_tub, rm_X5_fresh, rm_X5_pulls, rm_X5_plug, rm_X5_comes, rm_X5_bather, rm_X5_adds, rm_X5_cools, rm_X5_nose, rm_X5_smells, rm_X5_of, rm_X5_greatestOf, rm_X5_change, rm_X5_swaps, rm_X5_swap, rm_X5_flows, rm_X5_hourBut, rm_X5_hours, rm_X5_go, rm_X5_sumOf, rm_X5_coldTubs, rm_X5_knowing, rm_X5_unknown, rm_X5_now, rm_X5_ahead, rm_X5_knownIn, rm_X5_knows, rm_X5_soonest, rm_X5_when, rm_X5_cold, rm_X5_leftOf, rm_X5_left, rm_X5_needed, rm_X5_swapFor, rm_X5_seat, rm_X5_kindFor, rm_X5_coldest, rm_X5_freshFor, rm_X5_isHidden, rm_X5_hides, rm_X5_leave, rm_X5_plugFor, rm_X5_isTold, rm_X5_couldBe, rm_X5_wantsFor, rm_X5_fits, rm_X5_kinds, rm_X5_plugs, rm_X5_odds, rm_X5_seed, rm_X5_feed, rm_X5_wipe, rm_X5_isLetter, rm_X5_isDigit, rm_X5_byteAt, rm_X5_nextToken, rm_X5_has3, rm_X5_isWord, rm_X5_fails, rm_X5_isFour, rm_X5_isFive, rm_X5_isSix, rm_X5_isNumber, rm_X5_kindHere, rm_X5_isTwo, rm_X5_perhaps, rm_X5_batherHere, rm_X5_tubHere, rm_X5_freshHere, rm_X5_plugHere, rm_X5_itemHere, rm_X5_text, rm_X5_hold, rm_X5_isUnder, rm_X5_as, rm_X5_isSheet, rm_X5_sheet, rm_X5_write, rm_X5_copy, rm_X5_wants, rm_X5_load, rm_X5_judge, rm_X5_image, rm_X5_undo, rm_X5_tear, rm_X5_count, rm_X5_status, rm_J6_bitCount_0f7a4, rm_J0_length_8abf5, rm_J0_charAt_5068e, rm_J0_coder_7d493, rm_J0_isLatin1_aae02, rm_J0_checkIndex_df160, rm_J1_charAt_3b067, rm_J3_checkIndex_8e157]
def rv_mw : List (Nat × Nat × Nat × Nat) := [(278, 69, 277, 0), (667, 69, 666, 0), (301, 69, 300, 0), (310, 69, 309, 0), (313, 69, 312, 0), (678, 67, 676, 677), (491, 67, 489, 490), (694, 67, 692, 693), (686, 67, 684, 685), (413, 65, 411, 412), (294, 65, 292, 293), (282, 65, 280, 281), (286, 65, 284, 285), (330, 65, 328, 329), (338, 65, 336, 337), (241, 65, 239, 240), (245, 65, 243, 244), (257, 65, 255, 256), (270, 65, 268, 269), (507, 65, 505, 506), (347, 65, 345, 346), (351, 65, 349, 350), (361, 65, 360, 0), (355, 65, 354, 1), (366, 65, 365, 2), (370, 65, 369, 3), (298, 65, 296, 297), (317, 65, 315, 316), (253, 65, 251, 252), (405, 65, 403, 404), (397, 65, 395, 396), (401, 65, 399, 400), (723, 65, 721, 722), (393, 65, 391, 392), (516, 65, 514, 515), (385, 65, 383, 384), (389, 65, 387, 388), (728, 65, 726, 727), (541, 66, 539, 540), (560, 66, 559, 10), (630, 66, 629, 13), (648, 66, 647, 16), (564, 66, 563, 11), (567, 66, 566, 0), (578, 66, 577, 12), (636, 66, 635, 14), (640, 66, 639, 15), (546, 66, 545, 8), (550, 66, 549, 9), (553, 66, 552, 0), (556, 66, 555, 0), (219, 64, 217, 218), (234, 64, 232, 233), (249, 64, 247, 248), (262, 64, 260, 261), (266, 64, 264, 265), (275, 64, 273, 274), (290, 64, 288, 289), (323, 64, 321, 322), (334, 64, 332, 333), (342, 64, 340, 341), (381, 64, 379, 380), (409, 64, 407, 408), (420, 64, 418, 419), (424, 64, 422, 423), (433, 64, 431, 432), (437, 64, 435, 436), (442, 64, 440, 441), (446, 64, 444, 445), (451, 64, 449, 450), (455, 64, 453, 454), (459, 64, 457, 458), (463, 64, 461, 462), (472, 64, 470, 471), (476, 64, 474, 475), (480, 64, 478, 479), (499, 64, 497, 498), (503, 64, 501, 502), (512, 64, 510, 511), (525, 64, 523, 524), (529, 64, 527, 528), (533, 64, 531, 532), (537, 64, 535, 536), (657, 64, 655, 656), (664, 64, 662, 663), (674, 64, 672, 673), (682, 64, 680, 681), (690, 64, 688, 689), (699, 64, 697, 698), (703, 64, 701, 702), (707, 64, 705, 706), (711, 64, 709, 710), (715, 64, 713, 714), (719, 64, 717, 718), (732, 64, 730, 731), (229, 64, 228, 0), (225, 64, 224, 0), (222, 64, 221, 0), (237, 64, 236, 0), (660, 64, 659, 0), (487, 64, 486, 0), (326, 64, 325, 0), (520, 64, 519, 0), (484, 64, 483, 6), (428, 64, 427, 4), (467, 64, 466, 5), (495, 64, 494, 7), (798, 68, 797, 0), (807, 68, 806, 18), (802, 68, 801, 17), (948, 68, 947, 0), (794, 68, 793, 0), (814, 68, 813, 0), (864, 68, 863, 24), (831, 68, 830, 20), (968, 68, 967, 39), (872, 68, 871, 0), (791, 68, 789, 790), (818, 68, 817, 0), (811, 68, 809, 810), (835, 68, 834, 21), (827, 68, 826, 19), (822, 68, 820, 821), (839, 68, 837, 838), (847, 68, 846, 22), (843, 68, 841, 842), (856, 68, 855, 23), (851, 68, 849, 850), (869, 68, 868, 25), (876, 68, 875, 26), (880, 68, 879, 27), (884, 68, 883, 28), (860, 68, 858, 859), (892, 68, 891, 0), (888, 68, 886, 887), (900, 68, 899, 29), (896, 68, 894, 895), (919, 68, 918, 32), (915, 68, 914, 31), (911, 68, 910, 30), (904, 68, 902, 903), (927, 68, 926, 33), (931, 68, 930, 34), (935, 68, 934, 35), (939, 68, 938, 36), (923, 68, 921, 922), (943, 68, 941, 942), (956, 68, 955, 37), (952, 68, 950, 951), (964, 68, 963, 38), (960, 68, 958, 959), (973, 68, 971, 972), (981, 68, 980, 0), (977, 68, 975, 976), (985, 68, 983, 984), (990, 68, 988, 989), (994, 68, 992, 993), (998, 68, 996, 997), (1006, 68, 1005, 40), (1002, 68, 1000, 1001), (1015, 68, 1014, 41), (1010, 68, 1008, 1009), (1019, 68, 1017, 1018), (1023, 68, 1021, 1022), (1047, 68, 1046, 45), (1043, 68, 1042, 44), (1031, 68, 1030, 42), (1027, 68, 1025, 1026), (1051, 68, 1049, 1050), (1055, 68, 1053, 1054), (1060, 68, 1058, 1059), (1066, 68, 1064, 1065), (1070, 68, 1068, 1069), (1074, 68, 1072, 1073), (1089, 68, 1088, 0), (1092, 68, 1091, 0), (1086, 68, 1085, 47), (1082, 68, 1081, 46), (1112, 68, 1111, 52), (1108, 68, 1107, 51), (1124, 68, 1123, 55), (1140, 68, 1139, 59), (1116, 68, 1115, 53), (1104, 68, 1103, 50), (1136, 68, 1135, 58), (1100, 68, 1099, 49), (1128, 68, 1127, 56), (1132, 68, 1131, 57), (1120, 68, 1119, 54), (1144, 68, 1143, 60), (1148, 68, 1147, 61), (1152, 68, 1151, 62), (1096, 68, 1095, 48), (1078, 68, 1076, 1077), (1156, 68, 1154, 1155), (1163, 68, 1162, 0), (1160, 68, 1158, 1159), (1038, 68, 1037, 0), (1168, 68, 1166, 1167), (1173, 68, 1171, 1172), (1177, 68, 1175, 1176), (1035, 68, 1034, 43), (1181, 68, 1179, 1180), (1185, 68, 1183, 1184), (1189, 68, 1187, 1188), (1193, 68, 1191, 1192), (1197, 68, 1195, 1196), (1201, 68, 1199, 1200), (1205, 68, 1203, 1204), (304, 70, 303, 0), (582, 73, 580, 581), (592, 73, 590, 591), (586, 73, 584, 585), (596, 73, 594, 595), (602, 73, 601, 0), (599, 74, 598, 0), (607, 75, 606, 0)]
def rv_nt : List Nat := [416, 415, 72, 357, 374, 71, 358, 375]
def rv_fw : List (List Nat) := [[181, 183, 185], [116, 118, 120, 122, 124, 126, 128, 130, 132, 134, 136, 138], [156, 158, 160, 162, 164, 166], [197, 199, 201, 203, 205, 207, 209, 211, 213], [755, 757, 759, 761, 763, 765, 767, 769, 771, 773, 775, 777, 779, 781, 783, 785]]
end
section
/-! THE LIMIT: what the abstract machine gives with fuel enough, and that it unfolds -/
def rv_E1 (g : rv_C → rv_G) : rv_F := fun k as w => (rv_ms[k]?).bind fun M => cond (rv_isC w M.2.2.2.2.1 as && Nat.ble (as.map Value.category).sum M.2.2.1) (g M.2.2.2.2.2.2.2 0 (rv_ent M.2.2.1 as) [] w) none
noncomputable def rv_go : Nat → rv_C → Nat → rv_L → List Value → rv_W → Option rv_X
  | 0, _, _, _, _, _ => none
  | n + 1, cd, pc, lv, st, w => (rv_lk cd pc).bind fun x => rv_step (fun pc lv st w => rv_go n cd pc lv st w) (rv_E1 (fun cd pc lv st w => rv_go n cd pc lv st w)) x pc lv st w
def rv_dep (F : rv_G → rv_F → Option rv_X) : Prop := ∀ (G : rv_G) (E : rv_F) (r : rv_X), F G E = some r →
  (∀ (G' : rv_G) (E' : rv_F), F G' E' = some r) ∨ (∃ pc lv st w, G pc lv st w = some r ∧ ∀ (G' : rv_G) (E' : rv_F), G' pc lv st w = some r → F G' E' = some r) ∨
  (∃ k as w0 q pc lv st w, E k as w0 = some q ∧ G pc lv st w = some r ∧ ∀ (G' : rv_G) (E' : rv_F), E' k as w0 = some q → G' pc lv st w = some r → F G' E' = some r)
theorem rv_dk (o : Option rv_X) : rv_dep (fun _ _ => o) := fun _ _ _ h => Or.inl fun _ _ => h
theorem rv_dg (pc : Nat) (lv : rv_L) (st : List Value) (w : rv_W) : rv_dep (fun G _ => G pc lv st w) := fun _ _ _ h => Or.inr (Or.inl ⟨pc, lv, st, w, h, fun _ _ h' => h'⟩)
theorem rv_dc (b : Bool) {F1 F2 : rv_G → rv_F → Option rv_X} (h1 : rv_dep F1) (h2 : rv_dep F2) : rv_dep (fun G E => cond b (F1 G E) (F2 G E)) := by
  cases b
  · exact h2
  · exact h1
theorem rv_dif (b : Bool) {F1 F2 : rv_G → rv_F → Option rv_X} (h1 : rv_dep F1) (h2 : rv_dep F2) : rv_dep (fun G E => rv_if b (F1 G E) (F2 G E)) := by
  cases b
  · exact h2
  · exact h1
theorem rv_db {α : Type} (o : Option α) {F : α → rv_G → rv_F → Option rv_X} (h : ∀ x, rv_dep (F x)) : rv_dep (fun G E => o.bind fun x => F x G E) := by
  cases o with
  | none => exact rv_dk none
  | some x => exact h x
theorem rv_de {α : Type} (k : Nat) (as : List Value) (w0 : rv_W) (T : Option rv_X → Option α) (hT : T none = none) (P : α → Nat) (A : α → rv_L) (S : α → List Value) (V : α → rv_W) : rv_dep (fun G E => (T (E k as w0)).bind fun q => G (P q) (A q) (S q) (V q)) := by
  intro G E r h
  cases hE : E k as w0 with
  | none =>
    have h : (T (E k as w0)).bind (fun q => G (P q) (A q) (S q) (V q)) = some r := h
    rw [hE, hT] at h
    cases h
  | some q =>
    have h : (T (E k as w0)).bind (fun q => G (P q) (A q) (S q) (V q)) = some r := h
    rw [hE] at h
    cases hq : T (some q) with
    | none => rw [hq] at h; cases h
    | some u =>
      rw [hq] at h
      refine Or.inr (Or.inr ⟨k, as, w0, q, _, _, _, _, hE, h, fun G' E' h1 h2 => ?_⟩)
      show (T (E' k as w0)).bind (fun q => G' (P q) (A q) (S q) (V q)) = some r
      rw [h1, hq]
      exact h2
theorem rv_dgi (lv : rv_L) (i : Nat) {K : Int32 → rv_G → rv_F → Option rv_X} (h : ∀ x, rv_dep (K x)) : rv_dep (fun G E => rv_gi lv i fun x => K x G E) := by
  unfold rv_gi
  generalize rv_get lv i = o
  rcases o with _ | v
  · exact rv_dk none
  · cases v <;> first | exact h _ | exact rv_dk none
theorem rv_dgl (lv : rv_L) (i : Nat) {K : Int64 → rv_G → rv_F → Option rv_X} (h : ∀ x, rv_dep (K x)) : rv_dep (fun G E => rv_gl lv i fun x => K x G E) := by
  unfold rv_gl
  generalize rv_get lv i = o
  rcases o with _ | v
  · exact rv_dk none
  · cases v <;> first | exact h _ | exact rv_dk none
theorem rv_dga (lv : rv_L) (i : Nat) {K : Nat → rv_G → rv_F → Option rv_X} (h : ∀ x, rv_dep (K x)) : rv_dep (fun G E => rv_ga lv i fun x => K x G E) := by
  unfold rv_ga
  generalize rv_get lv i = o
  rcases o with _ | v
  · exact rv_dk none
  · cases v <;> first | exact h _ | exact rv_dk none
theorem rv_di1 (st : List Value) {K : Int32 → List Value → rv_G → rv_F → Option rv_X} (h : ∀ x r, rv_dep (K x r)) : rv_dep (fun G E => rv_i1 st fun x r => K x r G E) := by
  rcases st with _ | ⟨v, t⟩
  · exact rv_dk none
  · cases v <;> first | exact h _ _ | exact rv_dk none
theorem rv_dl1 (st : List Value) {K : Int64 → List Value → rv_G → rv_F → Option rv_X} (h : ∀ x r, rv_dep (K x r)) : rv_dep (fun G E => rv_l1 st fun x r => K x r G E) := by
  rcases st with _ | ⟨v, t⟩
  · exact rv_dk none
  · cases v <;> first | exact h _ _ | exact rv_dk none
theorem rv_da1 (st : List Value) {K : Nat → List Value → rv_G → rv_F → Option rv_X} (h : ∀ x r, rv_dep (K x r)) : rv_dep (fun G E => rv_a1 st fun x r => K x r G E) := by
  rcases st with _ | ⟨v, t⟩
  · exact rv_dk none
  · cases v <;> first | exact h _ _ | exact rv_dk none
theorem rv_dv1 (st : List Value) {K : Value → List Value → rv_G → rv_F → Option rv_X} (h : ∀ x r, rv_dep (K x r)) : rv_dep (fun G E => rv_v1 st fun x r => K x r G E) := by
  rcases st with _ | ⟨v, t⟩
  · exact rv_dk none
  · cases v <;> first | exact h _ _ | exact rv_dk none
theorem rv_di2 (st : List Value) {K : Int32 → Int32 → List Value → rv_G → rv_F → Option rv_X} (h : ∀ x y r, rv_dep (K x y r)) : rv_dep (fun G E => rv_i2 st fun x y r => K x y r G E) := by
  rcases st with _ | ⟨v, _ | ⟨u, t⟩⟩
  · exact rv_dk none
  · cases v <;> exact rv_dk none
  · cases v <;> cases u <;> first | exact h _ _ _ | exact rv_dk none
theorem rv_dl2 (st : List Value) {K : Int64 → Int64 → List Value → rv_G → rv_F → Option rv_X} (h : ∀ x y r, rv_dep (K x y r)) : rv_dep (fun G E => rv_l2 st fun x y r => K x y r G E) := by
  rcases st with _ | ⟨v, _ | ⟨u, t⟩⟩
  · exact rv_dk none
  · cases v <;> exact rv_dk none
  · cases v <;> cases u <;> first | exact h _ _ _ | exact rv_dk none
theorem rv_dli (st : List Value) {K : Int64 → Int32 → List Value → rv_G → rv_F → Option rv_X} (h : ∀ x y r, rv_dep (K x y r)) : rv_dep (fun G E => rv_li st fun x y r => K x y r G E) := by
  rcases st with _ | ⟨v, _ | ⟨u, t⟩⟩
  · exact rv_dk none
  · cases v <;> exact rv_dk none
  · cases v <;> cases u <;> first | exact h _ _ _ | exact rv_dk none
theorem rv_dai (st : List Value) {K : Nat → Int32 → List Value → rv_G → rv_F → Option rv_X} (h : ∀ x y r, rv_dep (K x y r)) : rv_dep (fun G E => rv_ai st fun x y r => K x y r G E) := by
  rcases st with _ | ⟨v, _ | ⟨u, t⟩⟩
  · exact rv_dk none
  · cases v <;> exact rv_dk none
  · cases v <;> cases u <;> first | exact h _ _ _ | exact rv_dk none
theorem rv_daa (st : List Value) {K : Nat → Nat → List Value → rv_G → rv_F → Option rv_X} (h : ∀ x y r, rv_dep (K x y r)) : rv_dep (fun G E => rv_aa st fun x y r => K x y r G E) := by
  rcases st with _ | ⟨v, _ | ⟨u, t⟩⟩
  · exact rv_dk none
  · cases v <;> exact rv_dk none
  · cases v <;> cases u <;> first | exact h _ _ _ | exact rv_dk none
theorem rv_diaR (st : List Value) {K : Nat → Int32 → List Value → rv_G → rv_F → Option rv_X} (h : ∀ x y r, rv_dep (K x y r)) : rv_dep (fun G E => rv_iaR st fun x y r => K x y r G E) := by
  rcases st with _ | ⟨v, _ | ⟨u, t⟩⟩
  · exact rv_dk none
  · cases v <;> exact rv_dk none
  · cases v <;> cases u <;> first | exact h _ _ _ | exact rv_dk none
theorem rv_dv2 (st : List Value) {K : Value → Value → List Value → rv_G → rv_F → Option rv_X} (h : ∀ x y r, rv_dep (K x y r)) : rv_dep (fun G E => rv_v2 st fun x y r => K x y r G E) := by
  rcases st with _ | ⟨v, _ | ⟨u, t⟩⟩
  · exact rv_dk none
  · cases v <;> exact rv_dk none
  · cases v <;> cases u <;> first | exact h _ _ _ | exact rv_dk none
theorem rv_daii (st : List Value) {K : Nat → Int32 → Int32 → List Value → rv_G → rv_F → Option rv_X} (h : ∀ x y z r, rv_dep (K x y z r)) : rv_dep (fun G E => rv_aii st fun x y z r => K x y z r G E) := by
  rcases st with _ | ⟨v, _ | ⟨u, _ | ⟨z, t⟩⟩⟩
  · exact rv_dk none
  · cases v <;> exact rv_dk none
  · cases v <;> cases u <;> exact rv_dk none
  · cases v <;> cases u <;> cases z <;> first | exact h _ _ _ _ | exact rv_dk none
theorem rv_dcp (st : List Value) {K : Nat → Int32 → Nat → Int32 → Int32 → List Value → rv_G → rv_F → Option rv_X} (h : ∀ s sp d dp n r, rv_dep (K s sp d dp n r)) : rv_dep (fun G E => rv_cp st fun s sp d dp n r => K s sp d dp n r G E) := by
  by_cases hs : ∃ n dp d sp s r, st = .int n :: .int dp :: .ref d :: .int sp :: .ref s :: r
  · obtain ⟨n, dp, d, sp, s, r, rfl⟩ := hs
    exact h s sp d dp n r
  · have e : ∀ K' : Nat → Int32 → Nat → Int32 → Int32 → List Value → Option rv_X, rv_cp st K' = none := by
      intro K'
      unfold rv_cp
      split
      · exact absurd ⟨_, _, _, _, _, _, rfl⟩ hs
      · rfl
    intro G E r hr
    have hr : rv_cp st (fun s sp d dp n r => K s sp d dp n r G E) = some r := hr
    rw [e] at hr
    cases hr
theorem rv_dend (st : List Value) (o : Option rv_X) : rv_dep (fun _ _ => rv_end st o) := rv_dk _
theorem rv_dt {F : Nat → rv_G → rv_F → Option rv_X} (h : ∀ pc, rv_dep (F pc)) (pc : Nat) (x : Int32) (d : Int) : ∀ (os : List Int) (lo : Int), rv_dep (fun G E => rv_tsw (fun pc => F pc G E) pc x d lo os)
  | [], _ => h _
  | _ :: os, lo => rv_dc _ (h _) (rv_dt h pc x d os (lo + 1))
theorem rv_dls {F : Nat → rv_G → rv_F → Option rv_X} (h : ∀ pc, rv_dep (F pc)) (pc : Nat) (x : Int32) (d : Int) : ∀ (os : List (Int × Int)), rv_dep (fun G E => rv_lsw (fun pc => F pc G E) pc x d os)
  | [] => h _
  | _ :: os => rv_dc _ (h _) (rv_dls h pc x d os)
theorem rv_dcall (a b pc : Nat) (lv : rv_L) (st : List Value) (w : rv_W) : rv_dep (fun G E => rv_call G E a b pc lv st w) := by
  refine rv_dif _ (rv_dif _ ?_ (rv_dif _ ?_ (rv_dif _ ?_ ?_))) (rv_dk none)
  · exact rv_de a _ w rv_ri rfl _ _ _ _
  · exact rv_de a _ w rv_rv rfl _ _ _ _
  · exact rv_de a _ w rv_rl rfl _ _ _ _
  · exact rv_de a _ w rv_rr rfl _ _ _ _
set_option maxHeartbeats 4000000 in
theorem rv_dstepI (a b : Nat) (c : Int32) (pc : Nat) (lv : rv_L) (st : List Value) (w : rv_W) (i : Jvm.ClassFile.Instr) : rv_dep (fun G E => rv_stepI G E a b c pc lv st w i) := by
  cases i with
  | iconst n => exact rv_dg _ _ _ _
  | bipush n => exact rv_dg _ _ _ _
  | sipush n => exact rv_dg _ _ _ _
  | ldc n => exact rv_dif _ (rv_dg _ _ _ _) (rv_dg _ _ _ _)
  | ldc_w n => exact rv_dg _ _ _ _
  | ldc2_w n => exact rv_dg _ _ _ _
  | lconst n => exact rv_dg _ _ _ _
  | iload n => exact rv_dgi _ _ fun _ => rv_dg _ _ _ _
  | iload_n n => exact rv_dgi _ _ fun _ => rv_dg _ _ _ _
  | lload n => exact rv_dgl _ _ fun _ => rv_dg _ _ _ _
  | lload_n n => exact rv_dgl _ _ fun _ => rv_dg _ _ _ _
  | aload n => exact rv_dga _ _ fun _ => rv_dg _ _ _ _
  | aload_n n => exact rv_dga _ _ fun _ => rv_dg _ _ _ _
  | istore n => exact rv_di1 _ fun _ _ => rv_dg _ _ _ _
  | istore_n n => exact rv_di1 _ fun _ _ => rv_dg _ _ _ _
  | lstore n => exact rv_dl1 _ fun _ _ => rv_dg _ _ _ _
  | lstore_n n => exact rv_dl1 _ fun _ _ => rv_dg _ _ _ _
  | astore n => exact rv_da1 _ fun _ _ => rv_dg _ _ _ _
  | astore_n n => exact rv_da1 _ fun _ _ => rv_dg _ _ _ _
  | iinc n m => exact rv_dgi _ _ fun _ => rv_dg _ _ _ _
  | iadd => exact rv_di2 _ fun _ _ _ => rv_dg _ _ _ _
  | isub => exact rv_di2 _ fun _ _ _ => rv_dg _ _ _ _
  | imul => exact rv_di2 _ fun _ _ _ => rv_dg _ _ _ _
  | iand => exact rv_di2 _ fun _ _ _ => rv_dg _ _ _ _
  | ior => exact rv_di2 _ fun _ _ _ => rv_dg _ _ _ _
  | ixor => exact rv_di2 _ fun _ _ _ => rv_dg _ _ _ _
  | ishl => exact rv_di2 _ fun _ _ _ => rv_dg _ _ _ _
  | ishr => exact rv_di2 _ fun _ _ _ => rv_dg _ _ _ _
  | iushr => exact rv_di2 _ fun _ _ _ => rv_dg _ _ _ _
  | idiv => exact rv_di2 _ fun _ _ _ => rv_dc _ (rv_dk none) (rv_dg _ _ _ _)
  | irem => exact rv_di2 _ fun _ _ _ => rv_dc _ (rv_dk none) (rv_dg _ _ _ _)
  | lmul => exact rv_dl2 _ fun _ _ _ => rv_dg _ _ _ _
  | land => exact rv_dl2 _ fun _ _ _ => rv_dg _ _ _ _
  | lor => exact rv_dl2 _ fun _ _ _ => rv_dg _ _ _ _
  | ldiv => exact rv_dl2 _ fun _ _ _ => rv_dc _ (rv_dk none) (rv_dg _ _ _ _)
  | lrem => exact rv_dl2 _ fun _ _ _ => rv_dc _ (rv_dk none) (rv_dg _ _ _ _)
  | lshl => exact rv_dli _ fun _ _ _ => rv_dg _ _ _ _
  | lshr => exact rv_dli _ fun _ _ _ => rv_dg _ _ _ _
  | lcmp => exact rv_dl2 _ fun _ _ _ => rv_dg _ _ _ _
  | i2l => exact rv_di1 _ fun _ _ => rv_dg _ _ _ _
  | i2b => exact rv_di1 _ fun _ _ => rv_dg _ _ _ _
  | i2s => exact rv_di1 _ fun _ _ => rv_dg _ _ _ _
  | i2c => exact rv_di1 _ fun _ _ => rv_dg _ _ _ _
  | dup => exact rv_dv1 st (K := fun x r G _ => G (pc + 1) lv (x :: x :: r) w) fun _ _ => rv_dg _ _ _ _
  | dup2 => exact rv_dv2 st (K := fun x y r G _ => G (pc + 1) lv (y :: x :: y :: x :: r) w) fun _ _ _ => rv_dg _ _ _ _
  | pop => exact rv_dv1 st (K := fun _ r G _ => G (pc + 1) lv r w) fun _ _ => rv_dg _ _ _ _
  | ifCond q n => exact rv_di1 _ fun _ _ => rv_dc _ (rv_dg _ _ _ _) (rv_dg _ _ _ _)
  | if_icmp q n => exact rv_di2 _ fun _ _ _ => rv_dc _ (rv_dg _ _ _ _) (rv_dg _ _ _ _)
  | goto n => exact rv_dg _ _ _ _
  | tableswitch d lo hi os => exact rv_di1 _ fun _ _ => rv_dt (fun _ => rv_dg _ _ _ _) _ _ _ _ _
  | lookupswitch d os => exact rv_di1 _ fun _ _ => rv_dls (fun _ => rv_dg _ _ _ _) _ _ _ _
  | iaload => exact rv_dai _ fun _ _ _ => rv_db _ fun _ => rv_dg _ _ _ _
  | baload => exact rv_dai _ fun _ _ _ => rv_db _ fun _ => rv_dg _ _ _ _
  | aaload => exact rv_dai _ fun _ _ _ => rv_db _ fun _ => rv_dg _ _ _ _
  | iastore => exact rv_daii _ fun _ _ _ _ => rv_db _ fun _ => rv_dg _ _ _ _
  | bastore => exact rv_daii _ fun _ _ _ _ => rv_db _ fun _ => rv_dg _ _ _ _
  | arraylength => exact rv_da1 _ fun _ _ => rv_db _ fun _ => rv_dg _ _ _ _
  | getfield n => exact rv_da1 _ fun _ _ => rv_dif _ (rv_db _ fun _ => rv_dg _ _ _ _) (rv_dif _ (rv_db _ fun _ => rv_dg _ _ _ _) (rv_dif _ (rv_dc _ (rv_dg _ _ _ _) (rv_dk none)) (rv_dc _ (rv_dg _ _ _ _) (rv_dk none))))
  | putfield n => exact rv_dif _ (rv_daa _ fun _ _ _ => rv_db _ fun _ => rv_dg _ _ _ _) (rv_dif _ (rv_diaR _ fun _ _ _ => rv_dc _ (rv_db _ fun _ => rv_dg _ _ _ _) (rv_dk none)) (rv_diaR _ fun _ _ _ => rv_db _ fun _ => rv_dg _ _ _ _))
  | getstatic n => exact rv_dif _ (rv_dg _ _ _ _) (rv_dif _ (rv_dg _ _ _ _) (rv_dg _ _ _ _))
  | invokevirtual n => exact rv_dcall _ _ _ _ _ _
  | invokestatic n => exact rv_dif _ (rv_dcp _ fun _ _ _ _ _ _ => rv_dif _ (rv_db _ fun _ => rv_dg _ _ _ _) (rv_dk none)) (rv_dif _ (rv_di2 _ fun _ _ _ => rv_dif _ (rv_dg _ _ _ _) (rv_dk none)) (rv_dif _ (rv_di2 _ fun _ _ _ => rv_dif _ (rv_dg _ _ _ _) (rv_dk none)) (rv_dcall _ _ _ _ _ _)))
  | ireturn => exact rv_di1 _ fun _ _ => rv_dk _
  | lreturn => exact rv_dl1 _ fun _ _ => rv_dk _
  | areturn => exact rv_da1 _ fun _ _ => rv_dk _
  | return_ => exact rv_dk _
  | _ => exact rv_dk none
theorem rv_dstep (x : rv_I) (pc : Nat) (lv : rv_L) (st : List Value) (w : rv_W) : rv_dep (fun G E => rv_step G E x pc lv st w) := by
  obtain ⟨i, len, a, b, pos, c, dead⟩ := x
  exact rv_dstepI _ _ _ _ _ _ _ _
theorem rv_E1_mono {g g' : rv_C → rv_G} (h : ∀ cd pc lv st w r, g cd pc lv st w = some r → g' cd pc lv st w = some r) (k : Nat) (as : List Value) (w : rv_W) (r : rv_X) (hr : rv_E1 g k as w = some r) : rv_E1 g' k as w = some r := by
  unfold rv_E1 at hr ⊢
  cases hM : rv_ms[k]? with
  | none => rw [hM] at hr; cases hr
  | some M =>
    rw [hM] at hr
    simp only [Option.bind_some] at hr ⊢
    cases hc : (rv_isC w M.2.2.2.2.1 as && Nat.ble (as.map Value.category).sum M.2.2.1) with
    | false => rw [hc] at hr; cases hr
    | true => rw [hc] at hr; exact h _ _ _ _ _ _ hr
theorem rv_go_succ (n : Nat) (cd : rv_C) (pc : Nat) (lv : rv_L) (st : List Value) (w : rv_W) : rv_go (n + 1) cd pc lv st w = (rv_lk cd pc).bind fun x => rv_step (rv_go n cd) (rv_E1 (rv_go n)) x pc lv st w := rfl
theorem rv_go_mono : ∀ (n : Nat) (cd : rv_C) (pc : Nat) (lv : rv_L) (st : List Value) (w : rv_W) (r : rv_X), rv_go n cd pc lv st w = some r → rv_go (n + 1) cd pc lv st w = some r := by
  intro n
  induction n with
  | zero => intro cd pc lv st w r h; cases h
  | succ n ih =>
    intro cd pc lv st w r h
    rw [rv_go_succ] at h ⊢
    cases hx : rv_lk cd pc with
    | none => rw [hx] at h; cases h
    | some x =>
      rw [hx] at h
      simp only [Option.bind_some] at h ⊢
      rcases rv_dstep x pc lv st w _ _ r h with h1 | ⟨pc', lv', st', w', h1, h2⟩ | ⟨k, as, w0, q, pc', lv', st', w', h0, h1, h2⟩
      · exact h1 _ _
      · exact h2 _ _ (ih _ _ _ _ _ _ h1)
      · exact h2 _ _ (rv_E1_mono ih _ _ _ _ h0) (ih _ _ _ _ _ _ h1)
theorem rv_go_le {n m : Nat} (hnm : n ≤ m) {cd : rv_C} {pc : Nat} {lv : rv_L} {st : List Value} {w : rv_W} {r : rv_X} (h : rv_go n cd pc lv st w = some r) : rv_go m cd pc lv st w = some r := by
  induction hnm with
  | refl => exact h
  | step _ ih => exact rv_go_mono _ _ _ _ _ _ _ ih
noncomputable def rv_GO (cd : rv_C) (pc : Nat) (lv : rv_L) (st : List Value) (w : rv_W) : Option rv_X :=
  @dite _ (∃ r n, rv_go n cd pc lv st w = some r) (Classical.propDecidable _) (fun h => some h.choose) (fun _ => none)
theorem rv_GO_iff {cd : rv_C} {pc : Nat} {lv : rv_L} {st : List Value} {w : rv_W} {r : rv_X} : rv_GO cd pc lv st w = some r ↔ ∃ n, rv_go n cd pc lv st w = some r := by
  unfold rv_GO
  by_cases h : ∃ r n, rv_go n cd pc lv st w = some r
  · rw [dif_pos h]
    obtain ⟨n, hn⟩ := h.choose_spec
    constructor
    · intro e
      rw [← Option.some.inj e]
      exact ⟨n, hn⟩
    · rintro ⟨m, hm⟩
      have h1 := rv_go_le (Nat.le_max_left n m) hn
      have h2 := rv_go_le (Nat.le_max_right n m) hm
      rw [h1] at h2
      exact h2
  · rw [dif_neg h]
    constructor
    · intro e; cases e
    · rintro ⟨m, hm⟩
      exact absurd ⟨r, m, hm⟩ h
noncomputable def rv_EV : rv_F := rv_E1 rv_GO
theorem rv_EV_iff {k : Nat} {as : List Value} {w : rv_W} {r : rv_X} (h : rv_EV k as w = some r) : ∃ n, rv_E1 (rv_go n) k as w = some r := by
  unfold rv_EV rv_E1 at h
  unfold rv_E1
  cases hM : rv_ms[k]? with
  | none => rw [hM] at h; cases h
  | some M =>
    rw [hM] at h
    simp only [Option.bind_some] at h ⊢
    cases hc : (rv_isC w M.2.2.2.2.1 as && Nat.ble (as.map Value.category).sum M.2.2.1) with
    | false => rw [hc] at h; cases h
    | true => rw [hc] at h; exact rv_GO_iff.mp h
theorem rv_GO_eq (cd : rv_C) (pc : Nat) (lv : rv_L) (st : List Value) (w : rv_W) : rv_GO cd pc lv st w = (rv_lk cd pc).bind fun x => rv_step (rv_GO cd) rv_EV x pc lv st w := by
  apply Option.ext
  intro r
  constructor
  · intro h
    obtain ⟨n, hn⟩ := rv_GO_iff.mp h
    cases n with
    | zero => cases hn
    | succ n =>
      rw [rv_go_succ] at hn
      cases hx : rv_lk cd pc with
      | none => rw [hx] at hn; cases hn
      | some x =>
        rw [hx] at hn
        simp only [Option.bind_some] at hn ⊢
        rcases rv_dstep x pc lv st w _ _ r hn with h1 | ⟨pc', lv', st', w', h1, h2⟩ | ⟨k, as, w0, q, pc', lv', st', w', h0, h1, h2⟩
        · exact h1 _ _
        · exact h2 _ _ (rv_GO_iff.mpr ⟨n, h1⟩)
        · exact h2 _ _ (rv_E1_mono (fun _ _ _ _ _ _ h => rv_GO_iff.mpr ⟨n, h⟩) _ _ _ _ h0) (rv_GO_iff.mpr ⟨n, h1⟩)
  · intro h
    cases hx : rv_lk cd pc with
    | none => rw [hx] at h; cases h
    | some x =>
      rw [hx] at h
      simp only [Option.bind_some] at h
      have key : ∀ n, rv_step (rv_go n cd) (rv_E1 (rv_go n)) x pc lv st w = some r → rv_GO cd pc lv st w = some r := by
        intro n hn
        refine rv_GO_iff.mpr ⟨n + 1, ?_⟩
        rw [rv_go_succ, hx]
        exact hn
      rcases rv_dstep x pc lv st w _ _ r h with h1 | ⟨pc', lv', st', w', h1, h2⟩ | ⟨k, as, w0, q, pc', lv', st', w', h0, h1, h2⟩
      · exact key 0 (h1 _ _)
      · obtain ⟨n, hn⟩ := rv_GO_iff.mp h1
        exact key n (h2 _ _ hn)
      · obtain ⟨n, hn⟩ := rv_GO_iff.mp h1
        obtain ⟨m, hm⟩ := rv_EV_iff h0
        refine key (max n m) (h2 _ _ ?_ (rv_go_le (Nat.le_max_left n m) hn))
        exact rv_E1_mono (fun _ _ _ _ _ _ h => rv_go_le (Nat.le_max_right n m) h) _ _ _ _ hm
/-! blocks: several instructions at once, up to the next label -/
def rv_killAt (cd : rv_C) (pc : Nat) (lv : rv_L) : rv_L := match rv_lk cd pc with
  | some x => rv_kill x.2.2.2.2.2.2 lv
  | none => lv
theorem rv_kill_get : ∀ (is : List Nat) (lv : rv_L) (j : Nat), (rv_kill is lv)[j]? = if j ∈ is then (lv[j]?).map (fun _ => none) else lv[j]?
  | [], lv, j => by simp [rv_kill]
  | i :: is, lv, j => by
    rw [rv_kill, rv_kill_get is (lv.set i none) j]
    by_cases hi : j = i
    · subst hi
      by_cases hl : j < lv.length
      · simp [List.getElem?_set, hl]
      · simp [List.getElem?_set, hl]
    · have hi' : ¬ i = j := fun h => hi h.symm
      simp [List.getElem?_set, hi, hi']
theorem rv_kill_kill (is : List Nat) (lv : rv_L) : rv_kill is (rv_kill is lv) = rv_kill is lv := by
  apply List.ext_getElem?
  intro j
  rw [rv_kill_get, rv_kill_get]
  by_cases h : j ∈ is
  · simp [h, Option.map_map]
    rfl
  · simp [h]
theorem rv_GO_kill (cd : rv_C) (pc : Nat) (lv : rv_L) (st : List Value) (w : rv_W) : rv_GO cd pc (rv_killAt cd pc lv) st w = rv_GO cd pc lv st w := by
  rw [rv_GO_eq, rv_GO_eq cd pc lv]
  unfold rv_killAt
  cases hx : rv_lk cd pc with
  | none => rfl
  | some x =>
    obtain ⟨i, len, a, b, pos, c, dead⟩ := x
    simp only [Option.bind_some]
    show rv_stepI _ _ a b c pc (rv_kill dead (rv_kill dead lv)) st w i = rv_stepI _ _ a b c pc (rv_kill dead lv) st w i
    rw [rv_kill_kill]
noncomputable def rv_blk (stops : List Nat) : Nat → rv_C → Nat → rv_L → List Value → rv_W → Option rv_X
  | 0, cd, pc, lv, st, w => rv_GO cd pc lv st w
  | n + 1, cd, pc, lv, st, w => rv_ob (rv_lk cd pc) fun x => rv_step (fun pc lv st w => rv_if (stops.elem pc) (rv_GO cd pc (rv_killAt cd pc lv) st w) (rv_blk stops n cd pc lv st w)) rv_EV x pc lv st w
theorem rv_blk_eq (stops : List Nat) : ∀ (n : Nat) (cd : rv_C) (pc : Nat) (lv : rv_L) (st : List Value) (w : rv_W), rv_blk stops n cd pc lv st w = rv_GO cd pc lv st w
  | 0, _, _, _, _, _ => rfl
  | n + 1, cd, pc, lv, st, w => by
    have e : (fun pc lv st w => rv_if (stops.elem pc) (rv_GO cd pc (rv_killAt cd pc lv) st w) (rv_blk stops n cd pc lv st w)) = rv_GO cd := by
      funext pc lv st w
      rw [rv_GO_kill, rv_blk_eq stops n]
      cases stops.elem pc <;> rfl
    show (rv_ob (rv_lk cd pc) fun x => rv_step (fun pc lv st w => rv_if (stops.elem pc) (rv_GO cd pc (rv_killAt cd pc lv) st w) (rv_blk stops n cd pc lv st w)) rv_EV x pc lv st w) = _
    rw [e, rv_GO_eq]
    cases rv_lk cd pc <;> rfl
end
section
/-! WHAT IS CHECKED of the printed tables, once, by the kernel -/
def rv_w (i : Nat) (w : Jvm.Cond) : Bool := decide (lw_tbl[i]? = some w) && goodWord w
def rv_T : List Jvm.Cond := lw_tbl.filter goodWord
theorem rv_w_in {i : Nat} {w : Jvm.Cond} (h : rv_w i w = true) : w ∈ rv_T := by
  simp only [rv_w, Bool.and_eq_true, decide_eq_true_eq] at h
  exact List.mem_filter.mpr ⟨List.mem_of_getElem? h.1, h.2⟩
def rv_ln : Jvm.ClassFile.Instr → Nat → Nat
  | .bipush _, _ => 2
  | .ldc _, _ => 2
  | .iload _, _ => 2
  | .lload _, _ => 2
  | .aload _, _ => 2
  | .istore _, _ => 2
  | .lstore _, _ => 2
  | .astore _, _ => 2
  | .sipush _, _ => 3
  | .ldc_w _, _ => 3
  | .ldc2_w _, _ => 3
  | .iinc _ _, _ => 3
  | .ifCond _ _, _ => 3
  | .if_icmp _ _, _ => 3
  | .goto _, _ => 3
  | .getfield _, _ => 3
  | .putfield _, _ => 3
  | .getstatic _, _ => 3
  | .invokevirtual _, _ => 3
  | .invokestatic _, _ => 3
  | .tableswitch _ _ _ _, n => n
  | .lookupswitch _ _, n => n
  | _, _ => 1
def rv_tg (pc : Nat) (off : Int) : Bool := decide (0 ≤ (pc : Int) + off)
def rv_fl (own : String) (i a b pos : Nat) : Bool := match vwCl[a]? with
  | some q => decide (b / 10 < q.2.2) && rv_w pos (.fieldLink own i (q.2.1 (b / 10)).1 (q.2.1 (b / 10)).2.1 (q.2.1 (b / 10)).2.2.1)
  | none => false
def rv_fp (a b : Nat) (ty : FieldType) : Bool := match vwCl[a]? with
  | some q => decide ((q.2.1 (b / 10)).2.2.2 = false) && decide (parseFieldDescriptor (q.2.1 (b / 10)).2.2.1 = some ty)
  | none => false
def rv_cl (M : rv_M) (i a pos n : Nat) : Bool := match rv_ms[a]? with
  | some M' => rv_w pos (.methodLink M.1.cls i M'.1) && decide ((parseMethodDescriptor M'.1.desc).map (fun d => d.parameters.length) = some n) && decide (M'.2.2.2.2.2.1 + 1 ≤ M.2.2.2.2.2.1) && decide (8 + (M'.2.2.1 + 11) + M'.2.2.2.2.2.2.1 ≤ M.2.2.2.2.2.2.1)
  | none => false
def rv_cs (a : Nat) (st : Bool) : Bool := match rv_ms[a]? with
  | some M' => decide ((Nat.beq M'.2.2.2.2.1 99) = st)
  | none => false
def rv_okJ (M : rv_M) (pc a b pos : Nat) (c : Int32) : Jvm.ClassFile.Instr → Bool
  | .iconst n => decide (Int32.ofInt n = c)
  | .bipush n => decide ((Int8.ofInt n).toInt32 = c)
  | .sipush n => decide ((Int16.ofInt n).toInt32 = c)
  | .ldc i => cond (Nat.beq a 0) (rv_w pos (.constant M.1.cls i c)) (decide ((rv_strW[b]?).map (fun q => q.1) = some i) && decide (M.1.cls = "TubSteps$TextReader"))
  | .ldc_w i => rv_w pos (.constant M.1.cls i c)
  | .ldc2_w i => rv_w pos (.constantLong M.1.cls i c.toInt64)
  | .lconst n => decide (Int64.ofNat n.val = c.toInt64)
  | .istore i => decide (i < M.2.2.1)
  | .istore_n i => decide (i.val < M.2.2.1)
  | .astore i => decide (i < M.2.2.1)
  | .astore_n i => decide (i.val < M.2.2.1)
  | .lstore i => decide (i + 1 < M.2.2.1)
  | .lstore_n i => decide (i.val + 1 < M.2.2.1)
  | .iinc i n => decide (Int32.ofInt n = c) && decide (i < M.2.2.1)
  | .ifCond _ off => rv_tg pc off
  | .if_icmp _ off => rv_tg pc off
  | .goto off => rv_tg pc off
  | .tableswitch d lo hi offs => decide (hi = lo + (offs.toList.length : Int) - 1) && rv_tg pc d && offs.toList.all (rv_tg pc) && decide (-1000 ≤ lo) && decide (hi ≤ 1000)
  | .lookupswitch d ps => (ps.toList.zip (ps.toList.drop 1)).all (fun (a, next) => a.1 < next.1) && rv_tg pc d && ps.toList.all (fun q => rv_tg pc q.2 && decide (-1000 ≤ q.1) && decide (q.1 ≤ 1000))
  | .getfield i => cond (Nat.beq (b % 10) 4) (rv_w pos (.fieldLink M.1.cls i "java/lang/String" "value" "[B")) (cond (Nat.beq (b % 10) 5) (rv_w pos (.fieldLink M.1.cls i "java/lang/String" "coder" "B")) (rv_fl M.1.cls i a b pos && (Nat.beq (b % 10) 1 || Nat.beq (b % 10) 3)))
  | .putfield i => rv_fl M.1.cls i a b pos && cond (Nat.beq (b % 10) 3) (rv_fp a b (.array .byte)) (cond (Nat.beq (b % 10) 2) (rv_fp a b .boolean) (rv_fp a b .int))
  | .getstatic i => cond (Nat.beq a 0) (rv_w pos (.fieldLink M.1.cls i "TubSteps$Kinds" "ABOVE" "[I")) (cond (Nat.beq a 1) (rv_w pos (.fieldLink M.1.cls i "java/lang/String" "COMPACT_STRINGS" "Z")) (rv_w pos (.fieldLink M.1.cls i "jdk/internal/util/Preconditions" "SIOOBE_FORMATTER" "Ljava/util/function/BiFunction;")))
  | .invokevirtual i => rv_cl M i a pos (b / 4 - 1) && rv_cs a false && decide (0 < b / 4)
  | .invokestatic i => cond (Nat.beq a 9999) (rv_w pos (.methodLink M.1.cls i arraycopyName) && decide (1 ≤ M.2.2.2.2.2.1) && decide (8 + (nativeFrameWords "java/lang/System" "arraycopy" 5 + 11) ≤ M.2.2.2.2.2.2.1)) (cond (Nat.beq a 9998) (rv_w pos (.methodLink M.1.cls i Lib.Math.max.name) && decide (1 ≤ M.2.2.2.2.2.1) && decide (21 ≤ M.2.2.2.2.2.2.1)) (cond (Nat.beq a 9997) (rv_w pos (.methodLink M.1.cls i Lib.Math.min.name) && decide (1 ≤ M.2.2.2.2.2.1) && decide (21 ≤ M.2.2.2.2.2.2.1)) (rv_cl M i a pos (b / 4) && rv_cs a true)))
  | .ireturn => decide (M.2.2.2.1 = some (cond (Nat.beq a 0) FieldType.int (cond (Nat.beq a 1) FieldType.boolean (cond (Nat.beq a 2) FieldType.byte FieldType.char))))
  | .lreturn => decide (M.2.2.2.1 = some .long)
  | .areturn => decide (M.2.2.2.1 = some (.array .int)) || decide (M.2.2.2.1 = some (.object "java/lang/String"))
  | .return_ => decide (M.2.2.2.1 = none)
  | _ => true
def rv_okI (M : rv_M) (pc : Nat) (x : rv_I) : Bool := decide (decode M.2.1 pc = .ok (x.1, rv_ln x.1 x.2.1)) && rv_okJ M pc x.2.2.1 x.2.2.2.1 x.2.2.2.2.1 x.2.2.2.2.2.1 x.1
def rv_okC (M : rv_M) : Bool := match M.2.2.2.2.1 with
  | 99 => true
  | 98 => decide (M.1.cls = "java/lang/String")
  | ci => decide ((vwCl[ci]?).map (fun q => q.1) = some M.1.cls)
def rv_okM (M : rv_M) (q : Nat × Nat × Nat × Nat) : Bool :=
  rv_w q.1 (.code M.1 M.2.1 M.2.2.1 M.2.2.2.1) && rv_w q.2.1 (.initialized M.1.cls) && cond (Nat.beq M.2.2.2.2.1 99) (rv_w q.2.2.1 (.static M.1)) (rv_w q.2.2.1 (.instanceMethod M.1) && rv_w q.2.2.2 (.selects M.1.cls M.1 M.1)) &&
  rv_okC M && (decide (M.1.cls ≠ "java/lang/invoke/MethodHandle") && decide (M.1.cls ≠ "java/lang/invoke/VarHandle")) && plainName M.1.cls && M.2.2.2.2.2.2.2.all (fun q => rv_okI M q.1 q.2)
def rv_ntw : List Jvm.Cond := [.native arraycopyName, .static arraycopyName, .initialized "java/lang/System", .static Lib.Math.max.name, .static Lib.Math.min.name, .initialized "java/lang/Math", .code Lib.Math.max.name Lib.Math.max.code 2 (some .int), .code Lib.Math.min.name Lib.Math.min.code 2 (some .int)]
theorem rv_nat_in : ∀ w ∈ rv_ntw, w ∈ rv_T := by
  have h : (rv_ntw.zip rv_nt).all (fun q => rv_w q.2 q.1) = true := by decide +kernel
  have g : rv_ntw.length = rv_nt.length := by decide +kernel
  intro w hw
  obtain ⟨i, hi⟩ := List.getElem?_of_mem hw
  obtain ⟨hil, -⟩ := List.getElem?_eq_some_iff.mp hi
  have hv : rv_nt[i]? = some (rv_nt[i]'(by rw [← g]; exact hil)) := List.getElem?_eq_getElem _
  exact rv_w_in (List.all_eq_true.mp h (w, rv_nt[i]'(by rw [← g]; exact hil)) (List.mem_of_getElem? (i := i) (by rw [List.getElem?_zip_eq_some]; exact ⟨hi, hv⟩)))
theorem rv_cl_in : ∀ (ci : Nat) (q : vw_C), vwCl[ci]? = some q → ∀ w ∈ u_ws q.1 q.2.1 q.2.2, w ∈ rv_T := by
  have h : (vwCl.zip rv_fw).all (fun q => ((u_ws q.1.1 q.1.2.1 q.1.2.2).zip q.2).all (fun r => rv_w r.2 r.1) && decide ((u_ws q.1.1 q.1.2.1 q.1.2.2).length = q.2.length)) = true := by decide +kernel
  have g : rv_fw.length = vwCl.length := by decide +kernel
  intro ci q hq w hw
  obtain ⟨hl, hqe⟩ := List.getElem?_eq_some_iff.mp hq
  have hf : rv_fw[ci]? = some (rv_fw[ci]'(by rw [g]; exact hl)) := List.getElem?_eq_getElem _
  have hz : (q, rv_fw[ci]'(by rw [g]; exact hl)) ∈ vwCl.zip rv_fw := List.mem_of_getElem? (i := ci) (by rw [List.getElem?_zip_eq_some]; exact ⟨hq, hf⟩)
  have h1 := List.all_eq_true.mp h _ hz
  simp only [Bool.and_eq_true, decide_eq_true_eq] at h1
  obtain ⟨i, hi⟩ := List.getElem?_of_mem hw
  obtain ⟨hil, -⟩ := List.getElem?_eq_some_iff.mp hi
  have hv : (rv_fw[ci]'(by rw [g]; exact hl))[i]? = some ((rv_fw[ci]'(by rw [g]; exact hl))[i]'(by rw [← h1.2]; exact hil)) := List.getElem?_eq_getElem _
  have h2 := List.all_eq_true.mp h1.1 (w, (rv_fw[ci]'(by rw [g]; exact hl))[i]'(by rw [← h1.2]; exact hil)) (List.mem_of_getElem? (i := i) (by rw [List.getElem?_zip_eq_some]; exact ⟨hi, hv⟩))
  exact rv_w_in h2
end
section
theorem rv_ms_ok : ∀ (k : Nat) (M : rv_M), rv_ms[k]? = some M → ∃ q, rv_okM M q = true := sorry
end
section
/-! SOUNDNESS, first part: cells, locals, surroundings -/
def rv_cv (ad : Nat → Nat) (fv : Value) : Value → Value
  | .ref i => .ref (ad i)
  | .retAddr _ => fv
  | v => v
def rv_ce (ad : Nat → Nat) (fv : Value) (dA : Nat → ClassId) : rv_E → va_E
  | .inl (t, .inl xs) => .inl (dA t, (xs.length, .inl (fun j => xs.getD j 0)))
  | .inl (t, .inr rs) => .inl (dA t, (rs.length, .inr (.inr (.inr (.inr (fun j => (rs.getD j none).map ad))))))
  | .inr (ci, fs) => .inr (ci, fs.map (rv_cv ad fv))
def rv_cw (ad : Nat → Nat) (fv : Value) (dA : Nat → ClassId) (w : rv_W) : va_W := w.mapIdx (fun i e => (ad i, rv_ce ad fv dA e))
def rv_tys (dA : Nat → ClassId) : List (ClassId × FieldType) := [(dA 0, .int), (dA 1, .byte), (dA 2, .object "TubSteps$Sheet")]
def rv_A (ad : Nat → Nat) (N : Nat) : Nat → Prop := fun q => ∃ i, i < N ∧ q = ad i
def rv_env (ad : Nat → Nat) (fv : Value) (A : Nat → Prop) (U : State) (H : Heap) : Prop :=
  vk_S 14 (rv_strB.map List.length) rv_strB (fun i => ad (1000 + i)) (fun i => ad (2000 + i)) A U H ∧
  (va_Z "TubSteps$Kinds" "ABOVE" "[I" (.ref (ad 3000)) A U H ∧ va_T .int (ad 3000) 7 (fun j => .int (rv_above.getD j 0)) A U H) ∧
  va_Z "java/lang/String" "COMPACT_STRINGS" "Z" (.int 1) A U H ∧ va_Z "jdk/internal/util/Preconditions" "SIOOBE_FORMATTER" "Ljava/util/function/BiFunction;" fv A U H
def rv_strs (ad : Nat → Nat) (U : State) : Prop := ∀ (i : Nat) (q : Nat × String), rv_strW[i]? = some q → vk_R "TubSteps$TextReader" q.1 q.2 (ad (1000 + i)) U
theorem rv_env.moved {ad : Nat → Nat} {fv : Value} {A : Nat → Prop} {u U : State} {H : Heap} (hvm : u.vm.Alike U.vm) (h : rv_env ad fv A u H) : rv_env ad fv A U H :=
  ⟨vk_S.moved hvm h.1, ⟨va_Z.moved hvm h.2.1.1, va_T.moved hvm h.2.1.2⟩, va_Z.moved hvm h.2.2.1, va_Z.moved hvm h.2.2.2⟩
theorem rv_env.kept {ad : Nat → Nat} {fv : Value} {A : Nat → Prop} {U : State} {H H1 : Heap} (h : rv_env ad fv A U H) (hq : ∀ a : Nat, a < H.size → ¬ A a → H1[a]? = H[a]?) : rv_env ad fv A U H1 :=
  ⟨h.1.kept hq, ⟨h.2.1.1.kept hq, h.2.1.2.kept hq⟩, h.2.2.1.kept hq, h.2.2.2.kept hq⟩
theorem rv_env.narrow {ad : Nat → Nat} {fv : Value} {A B : Nat → Prop} {U : State} {H : Heap} (h : rv_env ad fv A U H) (hAB : ∀ q, B q → A q) : rv_env ad fv B U H :=
  ⟨h.1.narrow hAB, ⟨h.2.1.1.narrow hAB, h.2.1.2.narrow hAB⟩, h.2.2.1.narrow hAB, h.2.2.2.narrow hAB⟩
theorem rv_cw_get (ad : Nat → Nat) (fv : Value) (dA : Nat → ClassId) (w : rv_W) (k : Nat) : (rv_cw ad fv dA w)[k]? = (w[k]?).map (fun e => (ad k, rv_ce ad fv dA e)) := by
  unfold rv_cw
  rw [List.getElem?_mapIdx]
theorem rv_cw_at {ad : Nat → Nat} {fv : Value} {dA : Nat → ClassId} {w : rv_W} {k : Nat} {x : rv_E} (h : w[k]? = some x) : (rv_cw ad fv dA w)[k]? = some (ad k, rv_ce ad fv dA x) := by
  rw [rv_cw_get, h]
  rfl
theorem rv_cw_set (ad : Nat → Nat) (fv : Value) (dA : Nat → ClassId) (w : rv_W) (k : Nat) (x : rv_E) : rv_cw ad fv dA (w.set k x) = (rv_cw ad fv dA w).set k (ad k, rv_ce ad fv dA x) := by
  apply List.ext_getElem?
  intro j
  have hl : (rv_cw ad fv dA w).length = w.length := by simp [rv_cw]
  rw [rv_cw_get, List.getElem?_set, List.getElem?_set, hl]
  by_cases hj : k = j
  · subst hj
    by_cases hk : k < w.length
    · simp [hk]
    · simp [hk]
  · simp [hj, rv_cw_get]
theorem rv_cw_D {ad : Nat → Nat} {N : Nat} (hinj : ∀ i j, i < N → j < N → ad i = ad j → i = j) (fv : Value) (dA : Nat → ClassId) {w : rv_W} (hN : w.length = N) : va_D (rv_A ad N) (rv_cw ad fv dA w) := by
  have key : ∀ (k : Nat) (q : Nat × va_E), (rv_cw ad fv dA w)[k]? = some q → k < N ∧ q.1 = ad k := by
    intro k q hk
    rw [rv_cw_get] at hk
    cases hw : w[k]? with
    | none => rw [hw] at hk; cases hk
    | some x =>
      rw [hw] at hk
      cases hk
      exact ⟨by rw [← hN]; exact (List.getElem?_eq_some_iff.mp hw).1, rfl⟩
  refine ⟨fun i j p q hi hj hpq => ?_, fun k q hk => ?_⟩
  · obtain ⟨h1, h2⟩ := key i p hi
    obtain ⟨h3, h4⟩ := key j q hj
    exact hinj i j h1 h3 (by rw [← h2, ← h4]; exact hpq)
  · obtain ⟨h1, h2⟩ := key k q hk
    exact ⟨k, h1, h2⟩
/-! locals -/
def rv_lh (ad : Nat → Nat) (fv : Value) (ls : Array Slot) (n : Nat) (lv : rv_L) : Prop := ls.size = n ∧ lv_wf ls ∧ ∀ i v, rv_get lv i = some v → ls[i]? = some (.val (rv_cv ad fv v))
def rv_la (ad : Nat → Nat) (fv : Value) (lv : rv_L) : List (Nat × Value) := (List.range lv.length).filterMap (fun i => (rv_get lv i).map (fun v => (i, rv_cv ad fv v)))
theorem rv_get_eq : ∀ (l : rv_L) (i : Nat), rv_get l i = (l[i]?).bind id
  | [], i => by simp [rv_get]
  | x :: l, 0 => by simp [rv_get]
  | x :: l, i + 1 => by simp [rv_get, rv_get_eq l i]
theorem rv_get_lt {l : rv_L} {i : Nat} {v : Value} (h : rv_get l i = some v) : i < l.length := by
  rw [rv_get_eq] at h
  cases hi : l[i]? with
  | none => rw [hi] at h; cases h
  | some x => exact (List.getElem?_eq_some_iff.mp hi).1
theorem rv_get_set (l : rv_L) (i j : Nat) (x : Option Value) : rv_get (l.set i x) j = if i = j then (if j < l.length then x else none) else rv_get l j := by
  rw [rv_get_eq, rv_get_eq, List.getElem?_set]
  by_cases h : i = j
  · subst h
    by_cases h2 : i < l.length
    · simp [h2]
    · simp [h2]
  · simp [h]
theorem rv_la_has {ad : Nat → Nat} {fv : Value} {ls : Array Slot} {n : Nat} {lv : rv_L} (h : rv_lh ad fv ls n lv) : lv_has ls n (rv_la ad fv lv) := by
  refine ⟨h.1, h.2.1, fun q hq => ?_⟩
  obtain ⟨i, -, hi⟩ := List.mem_filterMap.mp hq
  cases hg : rv_get lv i with
  | none => rw [hg] at hi; cases hi
  | some v =>
    rw [hg] at hi
    cases hi
    exact h.2.2 i v hg
theorem rv_la_mem {ad : Nat → Nat} {fv : Value} {lv : rv_L} {i : Nat} {v : Value} (h : rv_get lv i = some v) : (i, rv_cv ad fv v) ∈ rv_la ad fv lv :=
  List.mem_filterMap.mpr ⟨i, List.mem_range.mpr (rv_get_lt h), by rw [h]; rfl⟩
theorem rv_cv_cat {fv : Value} (hfv : fv.category = 1) (ad : Nat → Nat) (v : Value) : (rv_cv ad fv v).category = v.category := by
  cases v <;> first | rfl | exact hfv
theorem rv_clr_get {lv : rv_L} {i j : Nat} {v : Value} (h : rv_get (rv_clr lv i) j = some v) : rv_get lv j = some v ∧ (j + 1 = i → ¬ v.category = 2) := by
  cases i with
  | zero => exact ⟨h, fun e => by omega⟩
  | succ k =>
    have h : rv_get (rv_clr1 lv k (rv_get lv k)) j = some v := h
    have hne : ¬ j = k → rv_get (rv_clr1 lv k (rv_get lv k)) j = rv_get lv j := by
      intro hj
      have hs : ∀ x : Option Value, rv_get (lv.set k x) j = rv_get lv j := fun x => by rw [rv_get_set, if_neg (fun q => hj q.symm)]
      cases rv_get lv k with
      | none => rfl
      | some u => cases u <;> first | exact hs _ | rfl
    by_cases hj : j = k
    · subst hj
      cases hg : rv_get lv j with
      | none =>
        rw [hg] at h
        have h : rv_get lv j = some v := h
        rw [hg] at h
        cases h
      | some u =>
        rw [hg] at h
        cases u with
        | long x =>
          have h : rv_get (lv.set j none) j = some v := h
          rw [rv_get_set, if_pos rfl] at h
          split at h <;> cases h
        | double x =>
          have h : rv_get (lv.set j none) j = some v := h
          rw [rv_get_set, if_pos rfl] at h
          split at h <;> cases h
        | _ =>
          have h : rv_get lv j = some v := h
          rw [hg] at h
          cases h
          exact ⟨rfl, fun _ q => by cases q⟩
    · exact ⟨by rw [← hne hj]; exact h, fun e => absurd (by omega) hj⟩
theorem rv_lh_put {ad : Nat → Nat} {fv : Value} (hfv : fv.category = 1) {ls' : Array Slot} {n i : Nat} {lv : rv_L} {v : Value} (h : lv_has ls' n ((i, rv_cv ad fv v) :: (rv_la ad fv lv).filter (fun q => !(q.1 == i) && !(q.1 + 1 == i && q.2.category == 2)))) : rv_lh ad fv ls' n (rv_put lv i v) := by
  refine ⟨h.1, h.2.1, fun j u hj => ?_⟩
  unfold rv_put at hj
  rw [rv_get_set] at hj
  by_cases hij : i = j
  · subst hij
    rw [if_pos rfl] at hj
    split at hj
    · cases hj
      exact h.2.2 _ List.mem_cons_self
    · cases hj
  · rw [if_neg hij] at hj
    obtain ⟨h1, h2⟩ := rv_clr_get hj
    refine h.2.2 (j, rv_cv ad fv u) (List.mem_cons_of_mem _ (List.mem_filter.mpr ⟨rv_la_mem h1, ?_⟩))
    have hji : ¬ j = i := fun q => hij q.symm
    simp only [Bool.and_eq_true, Bool.not_eq_true', beq_eq_false_iff_ne, ne_eq, hji, not_false_eq_true, true_and, Bool.and_eq_false_iff]
    by_cases e : j + 1 = i
    · right
      rw [rv_cv_cat hfv]
      exact h2 e
    · left
      exact e
theorem rv_lh_put2 {ad : Nat → Nat} {fv : Value} (hfv : fv.category = 1) {ls' : Array Slot} {n i : Nat} {lv : rv_L} {v : Value} (h : lv_has ls' n ((i, rv_cv ad fv v) :: (rv_la ad fv lv).filter (fun q => !(q.1 == i) && (!(q.1 == i + 1) && !(q.1 + 1 == i && q.2.category == 2))))) : rv_lh ad fv ls' n (rv_put2 lv i v) := by
  refine ⟨h.1, h.2.1, fun j u hj => ?_⟩
  unfold rv_put2 at hj
  rw [rv_get_set] at hj
  by_cases hij1 : i + 1 = j
  · rw [if_pos hij1] at hj
    split at hj <;> cases hj
  · rw [if_neg hij1, rv_get_set] at hj
    by_cases hij : i = j
    · subst hij
      rw [if_pos rfl] at hj
      split at hj
      · cases hj
        exact h.2.2 _ List.mem_cons_self
      · cases hj
    · rw [if_neg hij] at hj
      obtain ⟨h1, h2⟩ := rv_clr_get hj
      refine h.2.2 (j, rv_cv ad fv u) (List.mem_cons_of_mem _ (List.mem_filter.mpr ⟨rv_la_mem h1, ?_⟩))
      have hji : ¬ j = i := fun q => hij q.symm
      have hji1 : ¬ j = i + 1 := fun q => hij1 q.symm
      simp only [Bool.and_eq_true, Bool.not_eq_true', beq_eq_false_iff_ne, ne_eq, hji, hji1, not_false_eq_true, true_and, Bool.and_eq_false_iff]
      by_cases e : j + 1 = i
      · right
        rw [rv_cv_cat hfv]
        exact h2 e
      · left
        exact e
theorem rv_lh_kill {ad : Nat → Nat} {fv : Value} {ls : Array Slot} {n : Nat} {lv : rv_L} (is : List Nat) (h : rv_lh ad fv ls n lv) : rv_lh ad fv ls n (rv_kill is lv) := by
  refine ⟨h.1, h.2.1, fun i v hi => h.2.2 i v ?_⟩
  rw [rv_get_eq, rv_kill_get] at hi
  rw [rv_get_eq]
  split at hi
  · cases hl : lv[i]? with
    | none => rw [hl] at hi; cases hi
    | some x => rw [hl] at hi; cases hi
  · exact hi
theorem rv_ent_mem (ad : Nat → Nat) {fv : Value} (hfv : fv.category = 1) : ∀ (as : List Value) (n o i : Nat) (v : Value), rv_get (rv_ent n as) i = some v → (i + o, rv_cv ad fv v) ∈ lv_args o (as.map (rv_cv ad fv))
  | [], n, o, i, v, h => by
    rw [rv_ent, rv_get_eq] at h
    rw [List.getElem?_replicate] at h
    split at h <;> cases h
  | a :: as, n, o, i, v, h => by
    have two : a.category = 2 → rv_ent n (a :: as) = some a :: none :: rv_ent (n - 2) as → (i + o, rv_cv ad fv v) ∈ lv_args o ((a :: as).map (rv_cv ad fv)) := by
      intro hc he
      rw [he] at h
      rw [List.map_cons, lv_args, rv_cv_cat hfv, if_pos hc]
      match i, h with
      | 0, h =>
        have h : some a = some v := h
        cases h
        rw [Nat.zero_add]
        exact List.mem_cons_self
      | 1, h => cases h
      | i + 2, h =>
        have h : rv_get (rv_ent (n - 2) as) i = some v := h
        have := rv_ent_mem ad hfv as (n - 2) (o + 2) i v h
        rw [show i + 2 + o = i + (o + 2) by omega]
        exact List.mem_cons_of_mem _ this
    have one : a.category = 1 → rv_ent n (a :: as) = some a :: rv_ent (n - 1) as → (i + o, rv_cv ad fv v) ∈ lv_args o ((a :: as).map (rv_cv ad fv)) := by
      intro hc he
      rw [he] at h
      rw [List.map_cons, lv_args, rv_cv_cat hfv, if_neg (by omega)]
      match i, h with
      | 0, h =>
        have h : some a = some v := h
        cases h
        rw [Nat.zero_add]
        exact List.mem_cons_self
      | i + 1, h =>
        have h : rv_get (rv_ent (n - 1) as) i = some v := h
        have := rv_ent_mem ad hfv as (n - 1) (o + 1) i v h
        rw [show i + 1 + o = i + (o + 1) by omega]
        exact List.mem_cons_of_mem _ this
    cases a with
    | long x => exact two rfl rfl
    | double x => exact two rfl rfl
    | int x => exact one rfl rfl
    | float x => exact one rfl rfl
    | null => exact one rfl rfl
    | ref x => exact one rfl rfl
    | retAddr x => exact one rfl rfl
theorem rv_sl_len (ad : Nat → Nat) {fv : Value} (hfv : fv.category = 1) : ∀ (as : List Value), (lg_sl (as.map (rv_cv ad fv))).length = (as.map Value.category).sum
  | [] => rfl
  | a :: as => by
    have ih := rv_sl_len ad hfv as
    unfold lg_sl at ih ⊢
    rw [List.map_cons, List.flatMap_cons, List.length_append, ih, List.map_cons, List.sum_cons, rv_cv_cat hfv]
    rcases lv_cat a with h | h
    · rw [h, if_neg (by decide)]; rfl
    · rw [h, if_pos rfl]; rfl
end
section
/-! SOUNDNESS, second part: an instruction -/
def rv_ws (M : rv_M) : List Jvm.Cond := .code M.1 M.2.1 M.2.2.1 M.2.2.2.1 :: rv_T
def rv_rm (M : rv_M) : Room := { frames := M.2.2.2.2.2.1, cells := 0, slots := 0, locals := M.2.2.2.2.2.2.1 }
def rv_Qc (dC : Nat → ClassId) (dI : Nat → Nat → Nat) (dA : Nat → ClassId) (ad : Nat → Nat) (fv : Value) (N : Nat) (q : rv_X) : Array Value → State → Outcome → State → Prop := fun _ st oc t =>
  oc = .returned (q.1.map (rv_cv ad fv)) ∧ va_P (dC, dI) vwCl (rv_cw ad fv dA q.2) t.heap ∧ q.2.length = N ∧ va_F (rv_A ad N) st t
def rv_Pc (dC : Nat → ClassId) (dI : Nat → Nat → Nat) (dA : Nat → ClassId) (ad : Nat → Nat) (fv : Value) (N : Nat) (as : List Value) (w : rv_W) : Array Value → State → Prop :=
  va_Pc (as.map (rv_cv ad fv)) (fun U => va_P (dC, dI) vwCl (rv_cw ad fv dA w) U.heap ∧ va_K (dC, dI) vwCl (rv_tys dA) U ∧ rv_env ad fv (rv_A ad N) U U.heap ∧ rv_strs ad U)
def rv_ctx (dC : Nat → ClassId) (dI : Nat → Nat → Nat) (dA : Nat → ClassId) (ad : Nat → Nat) (fv : Value) (N : Nat) (M : rv_M) (p : Program) (s : State) (m : MethodId) (args : Array Value) (meth : Method) (c : Code) : Prop :=
  p.tables.exec = Jvm.exec ∧ c.code = M.2.1 ∧ meth.sig.returnType = M.2.2.2.1 ∧ c.maxLocals = M.2.2.1 ∧ s.vm.findClass M.1.cls = some m.cls ∧ (∀ w ∈ rv_T, w.before args s = true) ∧ meth.locks = false ∧ va_K (dC, dI) vwCl (rv_tys dA) s ∧ rv_env ad fv (rv_A ad N) s s.heap ∧ rv_strs ad s
theorem rv_oi_some {o : Option Value} {K : Int32 → Option rv_X} {r : rv_X} (h : rv_oi o K = some r) : ∃ x, o = some (.int x) ∧ K x = some r := by
  unfold rv_oi at h; split at h
  · exact ⟨_, rfl, h⟩
  · cases h
theorem rv_ol_some {o : Option Value} {K : Int64 → Option rv_X} {r : rv_X} (h : rv_ol o K = some r) : ∃ x, o = some (.long x) ∧ K x = some r := by
  unfold rv_ol at h; split at h
  · exact ⟨_, rfl, h⟩
  · cases h
theorem rv_oa_some {o : Option Value} {K : Nat → Option rv_X} {r : rv_X} (h : rv_oa o K = some r) : ∃ (x : Nat), o = some (.ref x) ∧ K x = some r := by
  unfold rv_oa at h; split at h
  · exact ⟨_, rfl, h⟩
  · cases h
theorem rv_i1_some {st : List Value} {K : Int32 → List Value → Option rv_X} {r : rv_X} (h : rv_i1 st K = some r) : ∃ x t, st = .int x :: t ∧ K x t = some r := by
  unfold rv_i1 at h; split at h
  · exact ⟨_, _, rfl, h⟩
  · cases h
theorem rv_l1_some {st : List Value} {K : Int64 → List Value → Option rv_X} {r : rv_X} (h : rv_l1 st K = some r) : ∃ x t, st = .long x :: t ∧ K x t = some r := by
  unfold rv_l1 at h; split at h
  · exact ⟨_, _, rfl, h⟩
  · cases h
theorem rv_a1_some {st : List Value} {K : Nat → List Value → Option rv_X} {r : rv_X} (h : rv_a1 st K = some r) : ∃ (x : Nat) (t : List Value), st = .ref x :: t ∧ K x t = some r := by
  unfold rv_a1 at h; split at h
  · exact ⟨_, _, rfl, h⟩
  · cases h
theorem rv_i2_some {st : List Value} {K : Int32 → Int32 → List Value → Option rv_X} {r : rv_X} (h : rv_i2 st K = some r) : ∃ x y t, st = .int y :: .int x :: t ∧ K x y t = some r := by
  unfold rv_i2 at h; split at h
  · exact ⟨_, _, _, rfl, h⟩
  · cases h
theorem rv_l2_some {st : List Value} {K : Int64 → Int64 → List Value → Option rv_X} {r : rv_X} (h : rv_l2 st K = some r) : ∃ x y t, st = .long y :: .long x :: t ∧ K x y t = some r := by
  unfold rv_l2 at h; split at h
  · exact ⟨_, _, _, rfl, h⟩
  · cases h
theorem rv_li_some {st : List Value} {K : Int64 → Int32 → List Value → Option rv_X} {r : rv_X} (h : rv_li st K = some r) : ∃ x y t, st = .int y :: .long x :: t ∧ K x y t = some r := by
  unfold rv_li at h; split at h
  · exact ⟨_, _, _, rfl, h⟩
  · cases h
theorem rv_ai_some {st : List Value} {K : Nat → Int32 → List Value → Option rv_X} {r : rv_X} (h : rv_ai st K = some r) : ∃ (x : Nat) (y : Int32) (t : List Value), st = .int y :: .ref x :: t ∧ K x y t = some r := by
  unfold rv_ai at h; split at h
  · exact ⟨_, _, _, rfl, h⟩
  · cases h
theorem rv_iaR_some {st : List Value} {K : Nat → Int32 → List Value → Option rv_X} {r : rv_X} (h : rv_iaR st K = some r) : ∃ (x : Nat) (y : Int32) (t : List Value), st = .int y :: .ref x :: t ∧ K x y t = some r := by
  unfold rv_iaR at h; split at h
  · exact ⟨_, _, _, rfl, h⟩
  · cases h
theorem rv_aa_some {st : List Value} {K : Nat → Nat → List Value → Option rv_X} {r : rv_X} (h : rv_aa st K = some r) : ∃ (x y : Nat) (t : List Value), st = .ref y :: .ref x :: t ∧ K x y t = some r := by
  unfold rv_aa at h; split at h
  · exact ⟨_, _, _, rfl, h⟩
  · cases h
theorem rv_aii_some {st : List Value} {K : Nat → Int32 → Int32 → List Value → Option rv_X} {r : rv_X} (h : rv_aii st K = some r) : ∃ (x : Nat) (y z : Int32) (t : List Value), st = .int z :: .int y :: .ref x :: t ∧ K x y z t = some r := by
  unfold rv_aii at h; split at h
  · exact ⟨_, _, _, _, rfl, h⟩
  · cases h
theorem rv_cp_some {st : List Value} {K : Nat → Int32 → Nat → Int32 → Int32 → List Value → Option rv_X} {r : rv_X} (h : rv_cp st K = some r) : ∃ (s : Nat) (sp : Int32) (d : Nat) (dp n : Int32) (t : List Value), st = .int n :: .int dp :: .ref d :: .int sp :: .ref s :: t ∧ K s sp d dp n t = some r := by
  unfold rv_cp at h; split at h
  · exact ⟨_, _, _, _, _, _, rfl, h⟩
  · cases h
theorem rv_end_some {st : List Value} {o : Option rv_X} {r : rv_X} (h : rv_end st o = some r) : st = [] ∧ o = some r := by
  unfold rv_end at h; split at h
  · exact ⟨rfl, h⟩
  · cases h
theorem rv_cond_s {b : Bool} {o : Option rv_X} {r : rv_X} (h : cond b o none = some r) : b = true ∧ o = some r := by
  cases b
  · cases h
  · exact ⟨rfl, h⟩
theorem rv_if_s {b : Bool} {o : Option rv_X} {r : rv_X} (h : rv_if b o none = some r) : b = true ∧ o = some r := by
  cases b
  · cases h
  · exact ⟨rfl, h⟩
theorem rv_cond_n {b : Bool} {o : Option rv_X} {r : rv_X} (h : cond b none o = some r) : b = false ∧ o = some r := by
  cases b
  · exact ⟨rfl, h⟩
  · cases h
theorem rv_bind_s {α : Type} {o : Option α} {K : α → Option rv_X} {r : rv_X} (h : o.bind K = some r) : ∃ x, o = some x ∧ K x = some r := by
  cases o with
  | none => cases h
  | some x => exact ⟨x, rfl, h⟩
theorem rv_ix_some {α : Type} {xs : List α} {i : Int32} {x : α} (h : rv_ix xs i = some x) : vp_in i xs.length ∧ xs[i.toNatClampNeg]? = some x := by
  unfold rv_ix at h
  split at h
  · cases h
  · refine ⟨?_, h⟩
    rename_i h0
    rintro (q | q)
    · exact h0 q
    · exact absurd (List.getElem?_eq_some_iff.mp h).1 (by omega)
theorem rv_ints_some {w : rv_W} {a : Nat} {xs : List Int32} (h : rv_ints w a = some xs) : w[a]? = some (.inl (0, .inl xs)) := by
  unfold rv_ints at h; split at h
  · rename_i h1; cases h; exact h1
  · cases h
theorem rv_byts_some {w : rv_W} {a : Nat} {xs : List Int32} (h : rv_byts w a = some xs) : w[a]? = some (.inl (1, .inl xs)) := by
  unfold rv_byts at h; split at h
  · rename_i h1; cases h; exact h1
  · cases h
theorem rv_refs_some {w : rv_W} {a : Nat} {xs : List (Option Nat)} (h : rv_refs w a = some xs) : w[a]? = some (.inl (2, .inr xs)) := by
  unfold rv_refs at h; split at h
  · rename_i h1; cases h; exact h1
  · cases h
theorem rv_obj_some {w : rv_W} {a ci : Nat} {fs : List Value} (h : rv_obj w a ci = some fs) : w[a]? = some (.inr (ci, fs)) := by
  unfold rv_obj at h; split at h
  · rename_i h1
    split at h
    · rename_i h2; cases h; subst h2; exact h1
    · cases h
  · cases h
theorem rv_ldFI_some {w : rv_W} {a ci k : Nat} {x : Int32} (h : rv_ldFI w a ci k = some x) : ∃ fs, w[a]? = some (.inr (ci, fs)) ∧ fs[k]? = some (.int x) := by
  unfold rv_ldFI at h
  cases hf : rv_obj w a ci with
  | none => rw [hf] at h; cases h
  | some fs =>
    rw [hf] at h
    simp only [Option.bind_some] at h
    split at h
    · rename_i h1; cases h; exact ⟨fs, rv_obj_some hf, h1⟩
    · cases h
theorem rv_ldFR_some {w : rv_W} {a ci k : Nat} {x : Nat} (h : rv_ldFR w a ci k = some x) : ∃ fs, w[a]? = some (.inr (ci, fs)) ∧ fs[k]? = some (.ref x) := by
  unfold rv_ldFR at h
  cases hf : rv_obj w a ci with
  | none => rw [hf] at h; cases h
  | some fs =>
    rw [hf] at h
    simp only [Option.bind_some] at h
    split at h
    · rename_i h1; cases h; exact ⟨fs, rv_obj_some hf, h1⟩
    · cases h
theorem rv_stF_some {w w' : rv_W} {a ci k : Nat} {v : Value} (h : rv_stF w a ci k v = some w') : ∃ fs, w[a]? = some (.inr (ci, fs)) ∧ k < fs.length ∧ w' = w.set a (.inr (ci, fs.set k v)) := by
  unfold rv_stF at h
  cases hf : rv_obj w a ci with
  | none => rw [hf] at h; cases h
  | some fs =>
    rw [hf] at h
    simp only [Option.bind_some] at h
    split at h
    · rename_i h1; cases h; exact ⟨fs, rv_obj_some hf, h1, rfl⟩
    · cases h
theorem rv_stI_some {w w' : rv_W} {a : Nat} {i x : Int32} (h : rv_stI w a i x = some w') : ∃ xs, w[a]? = some (.inl (0, .inl xs)) ∧ vp_in i xs.length ∧ w' = w.set a (.inl (0, .inl (xs.set i.toNatClampNeg x))) := by
  unfold rv_stI at h
  cases hf : rv_ints w a with
  | none => rw [hf] at h; cases h
  | some xs =>
    rw [hf] at h
    simp only [Option.bind_some] at h
    cases hi : rv_ix xs i with
    | none => rw [hi] at h; cases h
    | some y => rw [hi] at h; cases h; exact ⟨xs, rv_ints_some hf, (rv_ix_some hi).1, rfl⟩
theorem rv_stB_some {w w' : rv_W} {a : Nat} {i x : Int32} (h : rv_stB w a i x = some w') : ∃ xs, w[a]? = some (.inl (1, .inl xs)) ∧ vp_in i xs.length ∧ w' = w.set a (.inl (1, .inl (xs.set i.toNatClampNeg x.toInt8.toInt32))) := by
  unfold rv_stB at h
  cases hf : rv_byts w a with
  | none => rw [hf] at h; cases h
  | some xs =>
    rw [hf] at h
    simp only [Option.bind_some] at h
    cases hi : rv_ix xs i with
    | none => rw [hi] at h; cases h
    | some y => rw [hi] at h; cases h; exact ⟨xs, rv_byts_some hf, (rv_ix_some hi).1, rfl⟩
theorem rv_upd {xs : List Int32} {k : Nat} (hk : k < xs.length) (x : Int32) : upd (fun j => xs.getD j 0) k x = fun j => (xs.set k x).getD j 0 := by
  funext j
  by_cases h : j = k
  · subst h
    simp [upd, hk]
  · have h' : ¬ k = j := fun q => h q.symm
    simp [upd, h, List.getD_eq_getElem?_getD, List.getElem?_set, h']
theorem rv_in_lt {i : Int32} {n : Nat} (h : vp_in i n) : i.toNatClampNeg < n := Nat.not_le.mp fun q => h (Or.inr q)
theorem rv_tg_eq {pc : Nat} {off : Int} (h : rv_tg pc off = true) : (pc : Int) + off = (rv_to pc off : Int) := by
  have h := of_decide_eq_true h
  unfold rv_to
  omega
theorem rv_eq_t {x y : Int32} (h : x = y) : rv_eq x y = true := @decide_eq_true _ (Classical.propDecidable _) h
theorem rv_eq_f {x y : Int32} (h : ¬ x = y) : rv_eq x y = false := @decide_eq_false _ (Classical.propDecidable _) h
theorem rv_eq_n {x y : Int32} (h : rv_eq x y = false) : ¬ x = y := @of_decide_eq_false _ (Classical.propDecidable _) h
theorem rv_eqL_n {x y : Int64} (h : rv_eqL x y = false) : ¬ x = y := @of_decide_eq_false _ (Classical.propDecidable _) h
theorem rv_toN {x : Int32} {n : Nat} (hn : n < 2 ^ 31) (h : x.toUInt32.toNat ≤ n) : ∃ j : Nat, j ≤ n ∧ x = nI j := by
  refine ⟨x.toUInt32.toNat, h, ?_⟩
  apply Int32.toBitVec_inj.mp
  apply BitVec.eq_of_toNat_eq
  rw [pk_tn (by omega)]
  rfl
theorem rv_bz_or {x : Int32} (h : rv_bz x = true) : x = 0 ∨ x = 1 := by
  obtain ⟨j, hj, rfl⟩ := rv_toN (n := 1) (by decide) (Nat.le_of_ble_eq_true h)
  rcases (show j = 0 ∨ j = 1 by omega) with rfl | rfl
  · exact Or.inl rfl
  · exact Or.inr rfl
theorem rv_tsw_some {F : Nat → Option rv_X} {pc : Nat} {x : Int32} {d : Int} {r : rv_X} : ∀ {os : List Int} {lo : Int}, rv_tsw F pc x d lo os = some r →
    (∃ (j : Nat) (o : Int), os[j]? = some o ∧ x = Int32.ofInt (lo + j) ∧ F (rv_to pc o) = some r) ∨ ((∀ j : Nat, j < os.length → ¬ x = Int32.ofInt (lo + j)) ∧ F (rv_to pc d) = some r)
  | [], lo, h => Or.inr ⟨(fun j hj => absurd hj (Nat.not_lt_zero j)), h⟩
  | o :: os, lo, h => by
    rw [rv_tsw] at h
    by_cases hx : x = Int32.ofInt lo
    · rw [rv_eq_t hx] at h
      exact Or.inl ⟨0, o, rfl, by rw [hx]; congr 1; omega, h⟩
    · rw [rv_eq_f hx] at h
      rcases rv_tsw_some (os := os) (lo := lo + 1) h with ⟨j, o', h1, h2, h3⟩ | ⟨h1, h2⟩
      · exact Or.inl ⟨j + 1, o', h1, by rw [h2]; congr 1; omega, h3⟩
      · refine Or.inr ⟨fun j hj => ?_, h2⟩
        cases j with
        | zero => intro q; exact hx (by rw [q]; congr 1; omega)
        | succ j => intro q; exact h1 j (Nat.lt_of_succ_lt_succ hj) (by rw [q]; congr 1; omega)
theorem rv_ofI {z : Int} (h1 : -1000 ≤ z) (h2 : z ≤ 1001) : (Int32.ofInt z).toInt = z := Int32.toInt_ofInt_of_le (by omega) (by omega)
theorem rv_lsw_some {F : Nat → Option rv_X} {pc : Nat} {x : Int32} {d : Int} {r : rv_X} : ∀ {os : List (Int × Int)}, (∀ q ∈ os, -1000 ≤ q.1 ∧ q.1 ≤ 1000) → rv_lsw F pc x d os = some r →
    ∃ off, Op.lookupswitch.offset os d x.toInt = off ∧ F (rv_to pc off) = some r ∧ (off = d ∨ ∃ q ∈ os, q.2 = off)
  | [], _, h => ⟨d, rfl, h, Or.inl rfl⟩
  | (k, o) :: os, hk, h => by
    rw [rv_lsw] at h
    have hkk := hk (k, o) List.mem_cons_self
    have hz : (Int32.ofInt k).toInt = k := rv_ofI hkk.1 (by have := hkk.2; omega)
    by_cases hx : x = Int32.ofInt k
    · rw [rv_eq_t hx] at h
      refine ⟨o, ?_, h, Or.inr ⟨(k, o), List.mem_cons_self, rfl⟩⟩
      rw [Op.lookupswitch.offset_cons, if_pos]
      rw [hx, hz]
    · rw [rv_eq_f hx] at h
      obtain ⟨off, h1, h2, h3⟩ := rv_lsw_some (os := os) (fun q hq => hk q (List.mem_cons_of_mem _ hq)) h
      refine ⟨off, ?_, h2, ?_⟩
      · rw [lv_osw hx hz]; exact h1
      · rcases h3 with h3 | ⟨q, hq, h3⟩
        · exact Or.inl h3
        · exact Or.inr ⟨q, List.mem_cons_of_mem _ hq, h3⟩
theorem rv_cl_ty : ∀ (ci : Nat) (q : vw_C), vwCl[ci]? = some q → ∃ ty0 : Nat → FieldType, (∀ k, k < q.2.2 → parseFieldDescriptor (q.2.1 k).2.2.1 = some (ty0 k)) ∧ ∀ a, a < q.2.2 → ∀ b, b < q.2.2 → a ≠ b → (q.2.1 a).2.1 ≠ (q.2.1 b).2.1
  | 0, q, h => by cases h; exact ⟨tyX1, tyX1_ok, nmX1⟩
  | 1, q, h => by cases h; exact ⟨tyX2, tyX2_ok, nmX2⟩
  | 2, q, h => by cases h; exact ⟨tyX3, tyX3_ok, nmX3⟩
  | 3, q, h => by cases h; exact ⟨tyX4, tyX4_ok, nmX4⟩
  | 4, q, h => by cases h; exact ⟨tyX5, tyX5_ok, nmX5⟩
  | n + 5, q, h => by simp [vwCl] at h
theorem rv_fl_some {own : String} {i a b pos : Nat} (h : rv_fl own i a b pos = true) : ∃ q : vw_C, vwCl[a]? = some q ∧ b / 10 < q.2.2 ∧ Jvm.Cond.fieldLink own i (q.2.1 (b / 10)).1 (q.2.1 (b / 10)).2.1 (q.2.1 (b / 10)).2.2.1 ∈ rv_T := by
  unfold rv_fl at h; split at h
  · rename_i q hq
    simp only [Bool.and_eq_true, decide_eq_true_eq] at h
    exact ⟨q, hq, h.1, rv_w_in h.2⟩
  · cases h
theorem rv_fp_some {a b : Nat} {ty : FieldType} {q : vw_C} (hq : vwCl[a]? = some q) (h : rv_fp a b ty = true) : (q.2.1 (b / 10)).2.2.2 = false ∧ parseFieldDescriptor (q.2.1 (b / 10)).2.2.1 = some ty := by
  unfold rv_fp at h
  rw [hq] at h
  simp only [Bool.and_eq_true, decide_eq_true_eq] at h
  exact h
theorem rv_cpy_some {w w' : rv_W} {a d : Nat} {sp dp n : Int32} (h : rv_cpy w a sp d dp n = some w') : ∃ xs ys, w[a]? = some (.inl (0, .inl xs)) ∧ w[d]? = some (.inl (0, .inl ys)) ∧ (0 ≤ sp ∧ 0 ≤ dp ∧ 0 ≤ n ∧ sp.toNatClampNeg + n.toNatClampNeg ≤ xs.length ∧ dp.toNatClampNeg + n.toNatClampNeg ≤ ys.length) ∧
    w' = w.set d (.inl (0, .inl (rv_tab ys.length (va_cpy (fun j => xs.getD j 0) (fun j => ys.getD j 0) sp.toNatClampNeg dp.toNatClampNeg n.toNatClampNeg)))) := by
  unfold rv_cpy at h
  cases hx : rv_ints w a with
  | none => rw [hx] at h; cases h
  | some xs =>
    rw [hx] at h
    simp only [Option.bind_some] at h
    cases hy : rv_ints w d with
    | none => rw [hy] at h; cases h
    | some ys =>
      rw [hy] at h
      simp only [Option.bind_some] at h
      split at h
      · rename_i hc
        cases h
        exact ⟨xs, ys, rv_ints_some hx, rv_ints_some hy, hc, rfl⟩
      · cases h
end
section
/-! SOUNDNESS, third part: calls, and every instruction -/
section SND
variable {l : Launch} {dC : Nat → ClassId} {dI : Nat → Nat → Nat} {dA : Nat → ClassId} {ad : Nat → Nat} {fv : Value} {N : Nat} {M : rv_M}
variable {p : Program} {e : Env} {s : State} {m : MethodId} {args : Array Value} {below : List Frame} {meth : Method} {c : Code} {r : rv_X}
theorem rv_good {ws : List Jvm.Cond} (h : ∀ w ∈ ws, w ∈ rv_T) : GoodIn rv_T ws := fun w hw => ⟨h w hw, good_of_word (List.mem_filter.mp (h w hw)).2⟩
theorem rv_Pc_blind (as : List Value) (w : rv_W) : FrameBlind (rv_Pc dC dI dA ad fv N as w) := by
  intro a U g mk h
  obtain ⟨h1, h2, h3, h4, h5⟩ := h
  exact ⟨h1, h2, va_K.moved (u := U) (U := U.calling g mk a) (Vm.Alike.refl U.vm) h3, rv_env.moved (u := U) (U := U.calling g mk a) (Vm.Alike.refl U.vm) h4, fun i q hq => vk_R.same (u := U) (U := U.calling g mk a) rfl (h5 i q hq)⟩
theorem rv_Pc_at {as : List Value} {w : rv_W} {H : Heap} {locs : List Loc} (hK : va_K (dC, dI) vwCl (rv_tys dA) s) (hEn : rv_env ad fv (rv_A ad N) s s.heap) (hSt : rv_strs ad s) (hP : va_P (dC, dI) vwCl (rv_cw ad fv dA w) H) (hS : va_S (rv_A ad N) s.heap H locs) (U : State) (hU : U.heap = H) (hW : s.WarmedH U.vm) :
    rv_Pc dC dI dA ad fv N as w (as.map (rv_cv ad fv)).toArray U :=
  ⟨rfl, by rw [hU]; exact hP, va_K.moved hW.alike hK, rv_env.moved hW.alike (by rw [hU]; exact hEn.kept hS.2.1), fun i q hq => vk_R.warm hW (hSt i q hq)⟩
theorem rv_after {Q : State → Prop} {R : Room} {H : Heap} {locs : List Loc} {pc : Nat} {ls : Array Slot} {st0 rest : List Value} {q : rv_X} {a : Array Value}
    (hr : va_Run p l e R s m args below meth c H locs 0 0 0 0 (F0 m pc ls st0) rest (rv_Qc dC dI dA ad fv N q a) (rv_A ad N)) (hS : va_S (rv_A ad N) s.heap H locs)
    (kk : ∀ (H1 : Heap) (locs1 : List Loc), va_P (dC, dI) vwCl (rv_cw ad fv dA q.2) H1 → q.2.length = N → va_S (rv_A ad N) s.heap H1 locs1 → W p l e R s m args below meth c H1 locs1 0 0 Q (F0 m (pc + 3) ls ((q.1.map (rv_cv ad fv)).toList ++ rest))) :
    W p l e R s m args below meth c H locs 0 0 Q (F0 m pc ls st0) := by
  intro T hT X
  obtain ⟨v, st₀, t, T', L, h0, X', hL, e1, e2, ⟨hv, hp, hn, hz, hk⟩, st⟩ := hr T hT X
  cases hv
  rw [h0] at hz hk
  obtain ⟨t2, a1, b1⟩ := kk T'.heap (locs ++ L) (by rw [e1]; exact hp) hn
    ⟨Nat.le_trans hS.1 (by rw [e1]; exact hz), fun q h1 h2 => by rw [e1, hk q (Nat.lt_of_lt_of_le h1 hS.1) h2]; exact hS.2.1 q h1 h2, fun q hq => by
      rcases List.mem_append.mp hq with h | h
      · exact hS.2.2 q h
      · exact hL q h⟩ T' rfl X'
  exact ⟨t2, st t2 a1, b1⟩
theorem rv_okM_some {M : rv_M} (h : ∃ q, rv_okM M q = true) : Jvm.Cond.code M.1 M.2.1 M.2.2.1 M.2.2.2.1 ∈ rv_T ∧ Jvm.Cond.initialized M.1.cls ∈ rv_T ∧ (M.2.2.2.2.1 = 99 → Jvm.Cond.static M.1 ∈ rv_T) ∧ (¬ M.2.2.2.2.1 = 99 → Jvm.Cond.instanceMethod M.1 ∈ rv_T ∧ Jvm.Cond.selects M.1.cls M.1 M.1 ∈ rv_T) ∧
    rv_okC M = true ∧ (M.1.cls ≠ "java/lang/invoke/MethodHandle" ∧ M.1.cls ≠ "java/lang/invoke/VarHandle") ∧ plainName M.1.cls = true ∧ ∀ q ∈ M.2.2.2.2.2.2.2, rv_okI M q.1 q.2 = true := by
  obtain ⟨q, h⟩ := h
  unfold rv_okM at h
  simp only [Bool.and_eq_true] at h
  obtain ⟨⟨⟨⟨⟨⟨h1, h2⟩, h3⟩, h4⟩, h5⟩, h6⟩, h7⟩ := h
  refine ⟨rv_w_in h1, rv_w_in h2, fun e => ?_, fun e => ?_, h4, ⟨of_decide_eq_true h5.1, of_decide_eq_true h5.2⟩, h6, fun q hq => List.all_eq_true.mp h7 q hq⟩
  · rw [e] at h3
    exact rv_w_in h3
  · have hb : Nat.beq M.2.2.2.2.1 99 = false := Bool.eq_false_iff.mpr fun q => e (Nat.eq_of_beq_eq_true q)
    rw [hb] at h3
    simp only [cond_false, Bool.and_eq_true] at h3
    exact ⟨rv_w_in h3.1, rv_w_in h3.2⟩
theorem rv_cl_some {M : rv_M} {i a pos n : Nat} (h : rv_cl M i a pos n = true) {M' : rv_M} (hM : rv_ms[a]? = some M') : Jvm.Cond.methodLink M.1.cls i M'.1 ∈ rv_T ∧ (parseMethodDescriptor M'.1.desc).map (fun d => d.parameters.length) = some n ∧ M'.2.2.2.2.2.1 + 1 ≤ M.2.2.2.2.2.1 ∧ 8 + (M'.2.2.1 + 11) + M'.2.2.2.2.2.2.1 ≤ M.2.2.2.2.2.2.1 := by
  unfold rv_cl at h
  rw [hM] at h
  simp only [Bool.and_eq_true, decide_eq_true_eq] at h
  exact ⟨rv_w_in h.1.1.1, h.1.1.2, h.1.2, h.2⟩
theorem rv_take_drop (f : Value → Value) (st : List Value) (n : Nat) : st.map f = (((st.take n).reverse).map f).reverse ++ (st.drop n).map f := by
  rw [← List.map_reverse, List.reverse_reverse, ← List.map_append, List.take_append_drop]
theorem rv_sum_cat (hfv : fv.category = 1) (st : List Value) : ((st.map (rv_cv ad fv)).map fun v => v.category).sum = (st.map Value.category).sum := by
  rw [List.map_map]
  congr 1
  apply List.map_congr_left
  intro v _
  exact rv_cv_cat hfv ad v
theorem rv_recvS {H : Heap} {locs : List Loc} {A : Nat → Prop} {len : List Nat} {byt : List (List Int32)} {adV : Nat → Nat} {n0 : Nat} (h1 : 1000 ≤ n0) (h2 : n0 < 1014) (hE : vk_S 14 len byt (fun i => ad (1000 + i)) adV A s s.heap) (hS : va_S A s.heap H locs) : ∃ cell : Cell, H[ad n0]? = some cell ∧ cell.vm.isStatics = false ∧ s.vm.findClass "java/lang/String" = some cell.cls := by
  have h := vk_recv (i := n0 - 1000) hE (by omega) hS
  simp only [show 1000 + (n0 - 1000) = n0 by omega] at h
  exact h
/-- a static call -/
theorem rv_callS {Q : State → Prop} {H : Heap} {locs : List Loc} {pc : Nat} {ls : Array Slot} {st : List Value} {w : rv_W} {q : rv_X} {M' : rv_M} {idx a pos n : Nat} (hfv : fv.category = 1) (C0 : rv_ctx dC dI dA ad fv N M p s m args meth c)
    (hM : rv_ms[a]? = some M') (hcl : rv_cl M idx a pos n = true) (hcs : rv_cs a true = true) (hle : ((st.drop n).map Value.category).sum ≤ 8) (hn : n ≤ st.length)
    (hMet : Met l M'.1 (rv_ws M') (rv_rm M') (rv_Pc dC dI dA ad fv N (st.take n).reverse w) (rv_Qc dC dI dA ad fv N q) 0 0 (rv_A ad N))
    (hd : decode M.2.1 pc = .ok (.invokestatic idx, 3)) (hP : va_P (dC, dI) vwCl (rv_cw ad fv dA w) H) (hS : va_S (rv_A ad N) s.heap H locs) (hls : ls.size = M.2.2.1)
    (kk : ∀ (H1 : Heap) (locs1 : List Loc), va_P (dC, dI) vwCl (rv_cw ad fv dA q.2) H1 → q.2.length = N → va_S (rv_A ad N) s.heap H1 locs1 → W p l e (rv_rm M) s m args below meth c H1 locs1 0 0 Q (F0 m (pc + 3) ls ((q.1.map (rv_cv ad fv)).toList ++ (st.drop n).map (rv_cv ad fv)))) :
    W p l e (rv_rm M) s m args below meth c H locs 0 0 Q (F0 m pc ls (st.map (rv_cv ad fv))) := by
  obtain ⟨hx, hb, hr, hml, hown, hts, hlocks, hK, hEn, hSt⟩ := C0
  obtain ⟨o1, o2, o3, o4, o5, o6, o7, o8⟩ := rv_okM_some (rv_ms_ok a M' hM)
  obtain ⟨k1, k2, k3, k4⟩ := rv_cl_some hcl hM
  have h99 : M'.2.2.2.2.1 = 99 := by
    unfold rv_cs at hcs
    rw [hM] at hcs
    exact Nat.eq_of_beq_eq_true (of_decide_eq_true hcs)
  have hG : GoodIn rv_T (va_wsS M.1.cls idx M'.1 (rv_ws M')) := rv_good (by
    intro w hw
    unfold va_wsS rv_ws at hw
    simp only [List.cons_append, List.nil_append, List.mem_cons] at hw
    rcases hw with rfl | rfl | rfl | rfl | hw
    · exact k1
    · exact o3 h99
    · exact o2
    · exact o1
    · exact hw)
  have hrun := va_runS (l := l) (e := e) (R := rv_rm M) (below := below) (meth := meth) (H := H) (locs := locs) (cells := 0) (slots := 0) (mc := 0) (ms := 0) (g := F0 m pc ls (st.map (rv_cv ad fv))) (rest := (st.drop n).map (rv_cv ad fv)) (As := ((st.take n).reverse).map (rv_cv ad fv)) (n := n)
    (show CallFix p m c M.2.1 M.2.2.1 s args rv_T M.1.cls from ⟨hx, hb, hml, hown, hts⟩) hMet (va_cwS n hts hG rfl rfl rfl ⟨o6.1, o6.2, k2⟩ ⟨k3, k4⟩)
    ⟨rv_Pc_blind _ _, fun U hU hW => rv_Pc_at hK hEn hSt hP hS U hU hW⟩ rfl (by simp [hn]) hls (rv_take_drop _ _ _) (lv_room (by rw [rv_sum_cat hfv]; exact hle)) hd ⟨Nat.le_refl _, Nat.le_refl _⟩
  exact rv_after hrun hS kk
/-- a virtual call -/
theorem rv_callV {Q : State → Prop} {H : Heap} {locs : List Loc} {pc : Nat} {ls : Array Slot} {st : List Value} {w : rv_W} {q : rv_X} {M' : rv_M} {idx a pos n : Nat} (hfv : fv.category = 1) (C0 : rv_ctx dC dI dA ad fv N M p s m args meth c)
    (hM : rv_ms[a]? = some M') (hcl : rv_cl M idx a pos (n - 1) = true) (hcs : rv_cs a false = true) (h0 : 0 < n) (hle : ((st.drop n).map Value.category).sum ≤ 8) (hn : n ≤ st.length) (hisC : rv_isC w M'.2.2.2.2.1 (st.take n).reverse = true)
    (hMet : Met l M'.1 (rv_ws M') (rv_rm M') (rv_Pc dC dI dA ad fv N (st.take n).reverse w) (rv_Qc dC dI dA ad fv N q) 0 0 (rv_A ad N))
    (hd : decode M.2.1 pc = .ok (.invokevirtual idx, 3)) (hP : va_P (dC, dI) vwCl (rv_cw ad fv dA w) H) (hS : va_S (rv_A ad N) s.heap H locs) (hls : ls.size = M.2.2.1)
    (kk : ∀ (H1 : Heap) (locs1 : List Loc), va_P (dC, dI) vwCl (rv_cw ad fv dA q.2) H1 → q.2.length = N → va_S (rv_A ad N) s.heap H1 locs1 → W p l e (rv_rm M) s m args below meth c H1 locs1 0 0 Q (F0 m (pc + 3) ls ((q.1.map (rv_cv ad fv)).toList ++ (st.drop n).map (rv_cv ad fv)))) :
    W p l e (rv_rm M) s m args below meth c H locs 0 0 Q (F0 m pc ls (st.map (rv_cv ad fv))) := by
  obtain ⟨hx, hb, hr, hml, hown, hts, hlocks, hK, hEn, hSt⟩ := C0
  obtain ⟨o1, o2, o3, o4, o5, o6, o7, o8⟩ := rv_okM_some (rv_ms_ok a M' hM)
  obtain ⟨k1, k2, k3, k4⟩ := rv_cl_some hcl hM
  have h99 : ¬ M'.2.2.2.2.1 = 99 := by
    unfold rv_cs at hcs
    rw [hM] at hcs
    have := of_decide_eq_true hcs
    intro q
    rw [q] at this
    cases this
  have hG : GoodIn rv_T (wsV M.1.cls idx M'.1.cls M'.1 (rv_ws M')) := rv_good (by
    intro w hw
    unfold wsV rv_ws at hw
    simp only [List.cons_append, List.nil_append, List.mem_cons] at hw
    rcases hw with rfl | rfl | rfl | rfl | rfl | hw
    · exact k1
    · exact (o4 h99).1
    · exact (o4 h99).2
    · exact o2
    · exact o1
    · exact hw)
  obtain ⟨b0, As, hAs⟩ : ∃ b0 As, (st.take n).reverse = .ref b0 :: As := by
    unfold rv_isC at hisC
    split at hisC
    · exact absurd (by assumption) h99
    · split at hisC
      · exact ⟨_, _, by assumption⟩
      · cases hisC
    · split at hisC
      · exact ⟨_, _, by assumption⟩
      · cases hisC
  have hrec : ∃ cellB : Cell, H[ad b0]? = some cellB ∧ cellB.vm.isStatics = false ∧ s.vm.findClass M'.1.cls = some cellB.cls := by
    rw [hAs] at hisC
    unfold rv_isC at hisC
    unfold rv_okC at o5
    split at hisC
    · exact absurd (by assumption) h99
    · rename_i h98
      rw [h98] at o5
      have o5 : M'.1.cls = "java/lang/String" := of_decide_eq_true o5
      have hisC : (decide (1000 ≤ b0) && decide (b0 < 1014)) = true := hisC
      have z1 : @LE.le Nat _ 1000 b0 := of_decide_eq_true ((Bool.and_eq_true _ _).mp hisC).1
      have z2 : @LT.lt Nat _ b0 1014 := of_decide_eq_true ((Bool.and_eq_true _ _).mp hisC).2
      have hE := rv_recvS (n0 := b0) z1 z2 hEn.1 hS
      rw [o5]
      exact hE
    · rename_i ci hne1 hne2
      simp only at hisC
      split at o5
      · exact absurd (by assumption) h99
      · rename_i h98
        exact absurd h98 (by assumption)
      · have o5 := of_decide_eq_true o5
        cases hq : vwCl[M'.2.2.2.2.1]? with
        | none => rw [hq] at o5; cases o5
        | some q =>
          rw [hq] at o5
          have o5 : q.1 = M'.1.cls := Option.some.inj o5
          cases hf : rv_obj w b0 M'.2.2.2.2.1 with
          | none => rw [hf] at hisC; cases hisC
          | some fs =>
            rw [← o5]
            exact va_recv hK hP hq (rv_cw_at (rv_obj_some hf))
  have hst : st.map (rv_cv ad fv) = (As.map (rv_cv ad fv)).reverse ++ .ref (ad b0) :: (st.drop n).map (rv_cv ad fv) := by
    rw [rv_take_drop (rv_cv ad fv) st n, hAs]
    simp [rv_cv]
  have hlen : As.length = n - 1 := by
    have h1 : ((st.take n).reverse).length = n := by simp [hn]
    rw [hAs] at h1
    simp at h1
    omega
  rw [hAs] at hMet
  have hrun := va_runV (l := l) (e := e) (R := rv_rm M) (below := below) (meth := meth) (H := H) (locs := locs) (cells := 0) (slots := 0) (mc := 0) (ms := 0) (b := ad b0) (C := M'.1.cls) (g := F0 m pc ls (st.map (rv_cv ad fv))) (rest := (st.drop n).map (rv_cv ad fv)) (As := As.map (rv_cv ad fv)) (n := n - 1)
    (show CallFix p m c M.2.1 M.2.2.1 s args rv_T M.1.cls from ⟨hx, hb, hml, hown, hts⟩) hMet (cwV (n - 1) hts hG rfl rfl rfl ⟨rfl, o6.1, o6.2, k2⟩ ⟨k3, k4⟩)
    ⟨rv_Pc_blind _ _, hrec, fun U hU hW => rv_Pc_at (as := .ref b0 :: As) hK hEn hSt hP hS U hU hW⟩ rfl (by simp [hlen]) hls hst (lv_room (by rw [rv_sum_cat hfv]; exact hle)) hd ⟨Nat.le_refl _, Nat.le_refl _⟩
  exact rv_after hrun hS kk
end SND
end
section
/-! SOUNDNESS, fourth part: every instruction -/
section SNI
variable {l : Launch} {dC : Nat → ClassId} {dI : Nat → Nat → Nat} {dA : Nat → ClassId} {ad : Nat → Nat} {fv : Value} {N : Nat} {M : rv_M}
variable {p : Program} {e : Env} {s : State} {m : MethodId} {args : Array Value} {below : List Frame} {meth : Method} {c : Code} {r : rv_X}
abbrev rv_WW (l : Launch) (dC : Nat → ClassId) (dI : Nat → Nat → Nat) (dA : Nat → ClassId) (ad : Nat → Nat) (fv : Value) (N : Nat) (M : rv_M) (p : Program) (e : Env) (s : State) (m : MethodId) (args : Array Value) (below : List Frame) (meth : Method) (c : Code) (r : rv_X) (pc : Nat) (H : Heap) (locs : List Loc) (ls : Array Slot) (st : List Value) : Prop :=
  W p l e (rv_rm M) s m args below meth c H locs 0 0 (MQ below (rv_Qc dC dI dA ad fv N r) args s 0 0 (rv_A ad N)) (F0 m pc ls (st.map (rv_cv ad fv)))
def rv_HG (l : Launch) (dC : Nat → ClassId) (dI : Nat → Nat → Nat) (dA : Nat → ClassId) (ad : Nat → Nat) (fv : Value) (N : Nat) (M : rv_M) (p : Program) (e : Env) (s : State) (m : MethodId) (args : Array Value) (below : List Frame) (meth : Method) (c : Code) (r : rv_X) (G : rv_G) : Prop :=
  ∀ (pc : Nat) (lv : rv_L) (st : List Value) (w : rv_W) (H : Heap) (locs : List Loc) (ls : Array Slot), G pc lv st w = some r → w.length = N → va_P (dC, dI) vwCl (rv_cw ad fv dA w) H → va_S (rv_A ad N) s.heap H locs → rv_lh ad fv ls M.2.2.1 lv → rv_WW l dC dI dA ad fv N M p e s m args below meth c r pc H locs ls st
def rv_HE (l : Launch) (dC : Nat → ClassId) (dI : Nat → Nat → Nat) (dA : Nat → ClassId) (ad : Nat → Nat) (fv : Value) (N : Nat) (E : rv_F) : Prop :=
  ∀ (k : Nat) (as : List Value) (w : rv_W) (q : rv_X), E k as w = some q → w.length = N → ∃ M', rv_ms[k]? = some M' ∧ rv_isC w M'.2.2.2.2.1 as = true ∧ Met l M'.1 (rv_ws M') (rv_rm M') (rv_Pc dC dI dA ad fv N as w) (rv_Qc dC dI dA ad fv N q) 0 0 (rv_A ad N)
/-- the four kinds of answers -/
theorem rv_kinds {G : rv_G} {o : Option rv_X} {b pc : Nat} {lv : rv_L} {rest : List Value} (h : rv_if (Nat.beq (b % 4) 1) ((rv_ri o).bind fun q => G (pc + 3) lv (.int q.1 :: rest) q.2)
    (rv_if (Nat.beq (b % 4) 0) ((rv_rv o).bind fun q => G (pc + 3) lv rest q)
    (rv_if (Nat.beq (b % 4) 2) ((rv_rl o).bind fun q => G (pc + 3) lv (.long q.1 :: rest) q.2)
    ((rv_rr o).bind fun q => G (pc + 3) lv (.ref q.1 :: rest) q.2))) = some r) : ∃ q : rv_X, o = some q ∧ G (pc + 3) lv (q.1.toList ++ rest) q.2 = some r := by
  cases o with
  | none =>
    exfalso
    cases h1 : Nat.beq (b % 4) 1 with
    | true => rw [h1] at h; cases h
    | false =>
      rw [h1] at h
      cases h2 : Nat.beq (b % 4) 0 with
      | true => rw [h2] at h; cases h
      | false =>
        rw [h2] at h
        cases h3 : Nat.beq (b % 4) 2 with
        | true => rw [h3] at h; cases h
        | false => rw [h3] at h; cases h
  | some q =>
    refine ⟨q, rfl, ?_⟩
    obtain ⟨v, w⟩ := q
    cases h1 : Nat.beq (b % 4) 1 with
    | true =>
      rw [h1] at h
      cases v with
      | none => cases h
      | some v => cases v <;> first | exact h | cases h
    | false =>
      rw [h1] at h
      cases h2 : Nat.beq (b % 4) 0 with
      | true =>
        rw [h2] at h
        cases v with
        | none => exact h
        | some v => cases h
      | false =>
        rw [h2] at h
        cases h3 : Nat.beq (b % 4) 2 with
        | true =>
          rw [h3] at h
          cases v with
          | none => cases h
          | some v => cases v <;> first | exact h | cases h
        | false =>
          rw [h3] at h
          cases v with
          | none => cases h
          | some v => cases v <;> first | exact h | cases h
theorem rv_call_some {G : rv_G} {E : rv_F} {a b pc : Nat} {lv : rv_L} {st : List Value} {w : rv_W} (h : rv_call G E a b pc lv st w = some r) :
    (b / 4 ≤ st.length ∧ ((st.drop (b / 4)).map Value.category).sum ≤ 8) ∧ ∃ q : rv_X, E a (st.take (b / 4)).reverse w = some q ∧ G (pc + 3) lv (q.1.toList ++ st.drop (b / 4)) q.2 = some r := by
  unfold rv_call at h
  obtain ⟨h1, h2⟩ := rv_if_s h
  have h1 := (Bool.and_eq_true _ _).mp h1
  exact ⟨⟨Nat.le_of_ble_eq_true h1.1, Nat.le_of_ble_eq_true h1.2⟩, rv_kinds h2⟩
theorem rv_wl {w : rv_W} (hw : w.length = N) (k : Nat) (x : rv_E) : (w.set k x).length = N := by rw [List.length_set]; exact hw
theorem rv_lt {w : rv_W} (hw : w.length = N) {k : Nat} {x : rv_E} (h : w[k]? = some x) : k < N := by rw [← hw]; exact (List.getElem?_eq_some_iff.mp h).1
set_option maxHeartbeats 4000000 in
theorem rv_loadW (hinj : ∀ i j, i < N → j < N → ad i = ad j → i = j) (hN : N ≤ 1000) (C0 : rv_ctx dC dI dA ad fv N M p s m args meth c) {G : rv_G}
    (hG : rv_HG l dC dI dA ad fv N M p e s m args below meth c r G) {pc : Nat} {lv : rv_L} {rest : List Value} {w : rv_W} {H : Heap} {locs : List Loc} {ls : Array Slot} (hw : w.length = N) (hP : va_P (dC, dI) vwCl (rv_cw ad fv dA w) H) (hS : va_S (rv_A ad N) s.heap H locs) (hl : rv_lh ad fv ls M.2.2.1 lv)
    {q : Nat} {i : Int32} : (decode M.2.1 pc = .ok (.iaload, 1) → ∀ x, rv_ldI w q i = some x → G (pc + 1) lv (.int x :: rest) w = some r → rv_WW l dC dI dA ad fv N M p e s m args below meth c r pc H locs ls (.int i :: .ref q :: rest)) ∧
    (decode M.2.1 pc = .ok (.baload, 1) → ∀ x, rv_ldB w q i = some x → G (pc + 1) lv (.int x :: rest) w = some r → rv_WW l dC dI dA ad fv N M p e s m args below meth c r pc H locs ls (.int i :: .ref q :: rest)) ∧
    (decode M.2.1 pc = .ok (.aaload, 1) → ∀ x, rv_ldQ w q i = some x → G (pc + 1) lv (.ref x :: rest) w = some r → rv_WW l dC dI dA ad fv N M p e s m args below meth c r pc H locs ls (.int i :: .ref q :: rest)) ∧
    (decode M.2.1 pc = .ok (.arraylength, 1) → ∀ x, rv_len w q = some x → G (pc + 1) lv (.int x :: rest) w = some r → rv_WW l dC dI dA ad fv N M p e s m args below meth c r pc H locs ls (.ref q :: rest)) := by
  obtain ⟨hx, hb, hr, hml, hown, hts, hlocks, hK, hEn, hSt⟩ := C0
  have hg0 : ∀ pc' st', G pc' lv st' w = some r → rv_WW l dC dI dA ad fv N M p e s m args below meth c r pc' H locs ls st' := fun pc' st' h' => hG _ _ _ _ _ _ _ h' hw hP hS hl
  refine ⟨fun hd x h hk => ?_, fun hd x h hk => ?_, fun hd x h hk => ?_, fun hd x h hk => ?_⟩
  · unfold rv_ldI at h
    by_cases hq : q = 3000
    · rw [if_pos hq] at h
      obtain ⟨h1, h2⟩ := rv_ix_some h
      subst hq
      exact va_ti hx hb hEn.2.1.2 hS h1 (show Value.int (rv_above.getD i.toNatClampNeg 0) = .int x by rw [List.getD_eq_getElem?_getD, h2]; rfl) hd (hg0 _ (.int x :: rest) hk)
    · rw [if_neg hq] at h
      cases hxs : rv_ints w q with
      | none => rw [hxs] at h; cases h
      | some xs =>
        rw [hxs] at h
        obtain ⟨h1, h2⟩ := rv_ix_some h
        refine va_iald hx hb hK hP q 0 (rv_cw_at (rv_ints_some hxs)) rfl h1 hd ?_
        have hv : xs.getD i.toNatClampNeg 0 = x := by rw [List.getD_eq_getElem?_getD, h2]; rfl
        show W _ _ _ _ _ _ _ _ _ _ _ _ _ _ _ (F0 m (pc + 1) ls (.int (xs.getD i.toNatClampNeg 0) :: _))
        rw [hv]
        exact hg0 _ (.int x :: rest) hk
  · unfold rv_ldB at h
    by_cases hq : 2000 ≤ q
    · rw [if_pos hq] at h
      cases hxs : rv_strB[q - 2000]? with
      | none => rw [hxs] at h; cases h
      | some xs =>
        rw [hxs] at h
        obtain ⟨h1, h2⟩ := rv_ix_some h
        have hlt : q - 2000 < 14 := (List.getElem?_eq_some_iff.mp hxs).1
        have hT := (hEn.1.1 (q - 2000) hlt).2.2.2
        have hl1 : (rv_strB.map List.length).getD (q - 2000) 0 = xs.length := by rw [List.getD_eq_getElem?_getD, List.getElem?_map, hxs]; rfl
        have hl2 : rv_strB.getD (q - 2000) [] = xs := by rw [List.getD_eq_getElem?_getD, hxs]; rfl
        rw [hl1, hl2] at hT
        simp only [show 2000 + (q - 2000) = q by omega] at hT
        exact va_tb hx hb hT hS h1 (show Value.int (xs.getD i.toNatClampNeg 0) = .int x by rw [List.getD_eq_getElem?_getD, h2]; rfl) hd (hg0 _ (.int x :: rest) hk)
    · rw [if_neg hq] at h
      cases hxs : rv_byts w q with
      | none => rw [hxs] at h; cases h
      | some xs =>
        rw [hxs] at h
        obtain ⟨h1, h2⟩ := rv_ix_some h
        refine va_bald hx hb hK hP q 1 (rv_cw_at (rv_byts_some hxs)) rfl h1 hd ?_
        have hv : xs.getD i.toNatClampNeg 0 = x := by rw [List.getD_eq_getElem?_getD, h2]; rfl
        show W _ _ _ _ _ _ _ _ _ _ _ _ _ _ _ (F0 m (pc + 1) ls (.int (xs.getD i.toNatClampNeg 0) :: _))
        rw [hv]
        exact hg0 _ (.int x :: rest) hk
  · unfold rv_ldQ at h
    cases hxs : rv_refs w q with
    | none => rw [hxs] at h; cases h
    | some xs =>
      rw [hxs] at h
      simp only [Option.bind_some] at h
      cases hi : rv_ix xs i with
      | none => rw [hi] at h; cases h
      | some y =>
        rw [hi] at h
        have h : y = some x := h
        obtain ⟨h1, h2⟩ := rv_ix_some hi
        refine va_aldq hx hb hK hP q 2 (rv_cw_at (rv_refs_some hxs)) rfl h1 hd ?_
        have hv : xs.getD i.toNatClampNeg none = some x := by rw [List.getD_eq_getElem?_getD, h2, h]; rfl
        show W _ _ _ _ _ _ _ _ _ _ _ _ _ _ _ (F0 m (pc + 1) ls (va_rf ((xs.getD i.toNatClampNeg none).map ad) :: _))
        rw [hv]
        exact hg0 _ (.ref x :: rest) hk
  · unfold rv_len at h
    by_cases hq : 2000 ≤ q
    · rw [if_pos hq] at h
      cases hxs : rv_strB[q - 2000]? with
      | none => rw [hxs] at h; cases h
      | some xs =>
        rw [hxs] at h
        have h : Int32.ofNat xs.length = x := Option.some.inj h
        have hlt : q - 2000 < 14 := (List.getElem?_eq_some_iff.mp hxs).1
        have hT := (hEn.1.1 (q - 2000) hlt).2.2.2
        have hl1 : (rv_strB.map List.length).getD (q - 2000) 0 = xs.length := by rw [List.getD_eq_getElem?_getD, List.getElem?_map, hxs]; rfl
        rw [hl1] at hT
        simp only [show 2000 + (q - 2000) = q by omega] at hT
        exact va_tlen hx hb hT hS h hd (hg0 _ (.int x :: rest) hk)
    · rw [if_neg hq] at h
      split at h
      · rename_i xs hxs
        exact va_alen (ty := .int) hx hb hK hP q 0 (rv_cw_at hxs) rfl (Option.some.inj h) hd (hg0 _ (.int x :: rest) hk)
      · rename_i xs hxs
        exact va_alen (ty := .byte) hx hb hK hP q 1 (rv_cw_at hxs) rfl (Option.some.inj h) hd (hg0 _ (.int x :: rest) hk)
      · rename_i xs hxs
        exact va_alen (ty := .object "TubSteps$Sheet") hx hb hK hP q 2 (rv_cw_at hxs) rfl (Option.some.inj h) hd (hg0 _ (.int x :: rest) hk)
      · cases h
end SNI
end
section
/-! SOUNDNESS, fifth part: every instruction, every method -/
section SNX
variable {l : Launch} {dC : Nat → ClassId} {dI : Nat → Nat → Nat} {dA : Nat → ClassId} {ad : Nat → Nat} {fv : Value} {N : Nat} {M : rv_M}
variable {p : Program} {e : Env} {s : State} {m : MethodId} {args : Array Value} {below : List Frame} {meth : Method} {c : Code} {r : rv_X}
theorem rv_cmpW {Q : State → Prop} {R : Room} {H : Heap} {locs : List Loc} {pc : Nat} {ls : Array Slot} {rest : List Value} {off : Int} {cc : ByteArray} (q : Jvm.ClassFile.Cond) (hx : p.tables.exec = Jvm.exec) (hb : c.code = cc) (ht : rv_tg pc off = true) :
    (∀ {x : Int32}, decode cc pc = .ok (.ifCond q off, 3) → (rv_cnd q x 0 = true → W p l e R s m args below meth c H locs 0 0 Q (F0 m (rv_to pc off) ls rest)) → (rv_cnd q x 0 = false → W p l e R s m args below meth c H locs 0 0 Q (F0 m (pc + 3) ls rest)) → W p l e R s m args below meth c H locs 0 0 Q (F0 m pc ls (.int x :: rest))) ∧
    (∀ {x y : Int32}, decode cc pc = .ok (.if_icmp q off, 3) → (rv_cnd q x y = true → W p l e R s m args below meth c H locs 0 0 Q (F0 m (rv_to pc off) ls rest)) → (rv_cnd q x y = false → W p l e R s m args below meth c H locs 0 0 Q (F0 m (pc + 3) ls rest)) → W p l e R s m args below meth c H locs 0 0 Q (F0 m pc ls (.int y :: .int x :: rest))) := by
  have ht := rv_tg_eq ht
  constructor
  · intro x hd k1 k2
    cases q with
    | eq => exact lv_if_eq hx hb hd ht (fun z => k1 (@decide_eq_true _ (Classical.propDecidable _) z)) (fun z => k2 (@decide_eq_false _ (Classical.propDecidable _) z))
    | ne => exact lv_if_ne hx hb hd ht (fun z => k1 (@decide_eq_true _ (Classical.propDecidable _) z)) (fun z => k2 (@decide_eq_false _ (Classical.propDecidable _) (fun y => y z)))
    | lt => exact lv_if_lt hx hb hd ht (fun z => k1 (@decide_eq_true _ (Classical.propDecidable _) z)) (fun z => k2 (@decide_eq_false _ (Classical.propDecidable _) z))
    | ge => exact lv_if_ge hx hb hd ht (fun z => k1 (@decide_eq_true _ (Classical.propDecidable _) z)) (fun z => k2 (@decide_eq_false _ (Classical.propDecidable _) z))
    | gt => exact lv_if_gt hx hb hd ht (fun z => k1 (@decide_eq_true _ (Classical.propDecidable _) z)) (fun z => k2 (@decide_eq_false _ (Classical.propDecidable _) z))
    | le => exact lv_if_le hx hb hd ht (fun z => k1 (@decide_eq_true _ (Classical.propDecidable _) z)) (fun z => k2 (@decide_eq_false _ (Classical.propDecidable _) z))
  · intro x y hd k1 k2
    cases q with
    | eq => exact lv_icmp_eq hx hb hd ht (fun z => k1 (@decide_eq_true _ (Classical.propDecidable _) z)) (fun z => k2 (@decide_eq_false _ (Classical.propDecidable _) z))
    | ne => exact lv_icmp_ne hx hb hd ht (fun z => k1 (@decide_eq_true _ (Classical.propDecidable _) z)) (fun z => k2 (@decide_eq_false _ (Classical.propDecidable _) (fun y => y z)))
    | lt => exact lv_icmp_lt hx hb hd ht (fun z => k1 (@decide_eq_true _ (Classical.propDecidable _) z)) (fun z => k2 (@decide_eq_false _ (Classical.propDecidable _) z))
    | ge => exact lv_icmp_ge hx hb hd ht (fun z => k1 (@decide_eq_true _ (Classical.propDecidable _) z)) (fun z => k2 (@decide_eq_false _ (Classical.propDecidable _) z))
    | gt => exact lv_icmp_gt hx hb hd ht (fun z => k1 (@decide_eq_true _ (Classical.propDecidable _) z)) (fun z => k2 (@decide_eq_false _ (Classical.propDecidable _) z))
    | le => exact lv_icmp_le hx hb hd ht (fun z => k1 (@decide_eq_true _ (Classical.propDecidable _) z)) (fun z => k2 (@decide_eq_false _ (Classical.propDecidable _) z))
theorem rv_stI_cw {w : rv_W} {a : Nat} {xs : List Int32} {i x : Int32} (t : Nat) (hin : vp_in i xs.length) : (rv_cw ad fv dA w).set a (ad a, .inl (dA t, xs.length, .inl (upd (fun j => xs.getD j 0) i.toNatClampNeg x))) = rv_cw ad fv dA (w.set a (.inl (t, .inl (xs.set i.toNatClampNeg x)))) := by
  rw [rv_cw_set, rv_upd (rv_in_lt hin)]
  simp only [rv_ce, List.length_set]
theorem rv_stF_cw {w : rv_W} {a ci k : Nat} {fs : List Value} {v : Value} : (rv_cw ad fv dA w).set a (ad a, .inr (ci, (fs.map (rv_cv ad fv)).set k (rv_cv ad fv v))) = rv_cw ad fv dA (w.set a (.inr (ci, fs.set k v))) := by
  rw [rv_cw_set]
  simp only [rv_ce, List.map_set]
theorem rv_cpy_cw {w : rv_W} {d : Nat} {xs ys : List Int32} {sp dp n : Nat} (h : dp + n ≤ ys.length) : (rv_cw ad fv dA w).set d (ad d, .inl (dA 0, ys.length, .inl (va_cpy (fun j => xs.getD j 0) (fun j => ys.getD j 0) sp dp n))) = rv_cw ad fv dA (w.set d (.inl (0, .inl (rv_tab ys.length (va_cpy (fun j => xs.getD j 0) (fun j => ys.getD j 0) sp dp n))))) := by
  rw [rv_cw_set]
  simp only [rv_ce]
  have hl : (rv_tab ys.length (va_cpy (fun j => xs.getD j 0) (fun j => ys.getD j 0) sp dp n)).length = ys.length := by simp [rv_tab]
  rw [hl]
  congr 6
  funext j
  by_cases hj : j < ys.length
  · simp [rv_tab, hj]
  · rw [pk_cpy_out (by omega)]
    simp [rv_tab, hj]
theorem rv_put_fld {own : String} {i a b pos : Nat} {G : rv_G} (hinj : ∀ i j, i < N → j < N → ad i = ad j → i = j) (C0 : rv_ctx dC dI dA ad fv N M p s m args meth c) (hG : rv_HG l dC dI dA ad fv N M p e s m args below meth c r G) {pc : Nat} {lv : rv_L} {rest : List Value} {w w' : rv_W} {H : Heap} {locs : List Loc} {ls : Array Slot} (hw : w.length = N) (hP : va_P (dC, dI) vwCl (rv_cw ad fv dA w) H) (hS : va_S (rv_A ad N) s.heap H locs) (hl : rv_lh ad fv ls M.2.2.1 lv)
    (hfl : rv_fl M.1.cls i a b pos = true) {ty : FieldType} (hfp : rv_fp a b ty = true) {v : Value} (hn : narrow ty (rv_cv ad fv v) = rv_cv ad fv v) (hf : fits ty (rv_cv ad fv v) = true) {q : Nat} (hst : rv_stF w q a (b / 10) v = some w') (hk : G (pc + 3) lv rest w' = some r) (hd : decode M.2.1 pc = .ok (.putfield i, 3)) :
    rv_WW l dC dI dA ad fv N M p e s m args below meth c r pc H locs ls (v :: .ref q :: rest) := by
  obtain ⟨hx, hb, hr, hml, hown, hts, hlocks, hK, hEn, hSt⟩ := C0
  obtain ⟨fs, h1, h2, rfl⟩ := rv_stF_some hst
  obtain ⟨⟨C, T, Nf⟩, hq, hb10, hlink⟩ := rv_fl_some hfl
  obtain ⟨hfin, hty⟩ := rv_fp_some hq hfp
  obtain ⟨ty0, hty0, hnm⟩ := rv_cl_ty a _ hq
  refine va_put (D := (dC, dI)) (ci := a) (C := C) (T := T) (N := Nf) (ref := (T (b / 10)).1) hx hb hts (rv_cl_in a _ hq) ty0 hty0 hnm hown hK hP (rv_cw_D hinj fv dA hw) hS q (rv_cw_at h1) hq (b / 10) hb10 (hts _ hlink) (fun _ h9 => h9) hfin hty hn hf (by rw [List.length_map]; exact h2) hd (fun H1 locs1 hP1 _ hS1 => ?_)
  refine hG _ _ _ _ _ _ _ hk (rv_wl hw _ _) ?_ hS1 hl
  rw [← rv_stF_cw]
  exact hP1
set_option maxHeartbeats 8000000 in
theorem rv_stepW (hinj : ∀ i j, i < N → j < N → ad i = ad j → i = j) (hN : N ≤ 1000) (hfv : fv.category = 1) (C0 : rv_ctx dC dI dA ad fv N M p s m args meth c) {G : rv_G} {E : rv_F}
    (hG : rv_HG l dC dI dA ad fv N M p e s m args below meth c r G) (hE : rv_HE l dC dI dA ad fv N E) {pc a b pos : Nat} {k : Int32} {lv : rv_L} {st : List Value} {w : rv_W} {H : Heap} {locs : List Loc} {ls : Array Slot} (hw : w.length = N) (hP : va_P (dC, dI) vwCl (rv_cw ad fv dA w) H) (hS : va_S (rv_A ad N) s.heap H locs) (hl : rv_lh ad fv ls M.2.2.1 lv)
    {len : Nat} (i : Jvm.ClassFile.Instr) (hd : decode M.2.1 pc = .ok (i, rv_ln i len)) (hok : rv_okJ M pc a b pos k i = true) (h : rv_stepI G E a b k pc lv st w i = some r) : rv_WW l dC dI dA ad fv N M p e s m args below meth c r pc H locs ls st := by
  have C1 := C0
  obtain ⟨hx, hb, hr, hml, hown, hts, hlocks, hK, hEn, hSt⟩ := C1
  have hg : ∀ pc' lv' st' ls', G pc' lv' st' w = some r → rv_lh ad fv ls' M.2.2.1 lv' → rv_WW l dC dI dA ad fv N M p e s m args below meth c r pc' H locs ls' st' := fun pc' lv' st' ls' h' hl' => hG _ _ _ _ _ _ _ h' hw hP hS hl'
  have hg0 : ∀ pc' st', G pc' lv st' w = some r → rv_WW l dC dI dA ad fv N M p e s m args below meth c r pc' H locs ls st' := fun pc' st' h' => hg _ _ _ _ h' hl
  have hq : ∀ v : Option Value, r = (v, w) → ∀ t : State, t.heap = H → s.WarmedH t.vm → rv_Qc dC dI dA ad fv N r args s (.returned (v.map (rv_cv ad fv))) t := by
    intro v hv t ht _
    subst hv
    exact ⟨rfl, by rw [ht]; exact hP, hw, hS.F ht⟩
  cases i with
  | iconst n => exact lv_iconst hx hb hd (of_decide_eq_true hok) (hg0 _ (.int k :: st) h)
  | bipush n => exact lv_bipush hx hb hd (of_decide_eq_true hok) (hg0 _ (.int k :: st) h)
  | sipush n => exact lv_sipush hx hb hd (of_decide_eq_true hok) (hg0 _ (.int k :: st) h)
  | ldc n =>
    cases ha : Nat.beq a 0 with
    | true =>
      have hok : cond (Nat.beq a 0) _ _ = true := hok
      have h : rv_if (Nat.beq a 0) _ _ = some r := h
      rw [ha] at hok h
      exact lv_ldc hx hb hown (hts _ (rv_w_in hok)) hd (hg0 _ (.int k :: st) h)
    | false =>
      have hok : cond (Nat.beq a 0) _ _ = true := hok
      have h : rv_if (Nat.beq a 0) _ _ = some r := h
      rw [ha] at hok h
      simp only [cond_false, Bool.and_eq_true, decide_eq_true_eq] at hok
      cases hsw : rv_strW[b]? with
      | none => rw [hsw] at hok; cases hok.1
      | some q =>
        rw [hsw] at hok
        have h1 : q.1 = n := Option.some.inj hok.1
        have hR := hSt b q hsw
        rw [h1] at hR
        exact va_ldcS hx hb (by rw [← hok.2]; exact hown) hR hd (hg0 _ (.ref (1000 + b) :: st) h)
  | ldc_w n => exact lv_ldcw hx hb hown (hts _ (rv_w_in hok)) hd (hg0 _ (.int k :: st) h)
  | ldc2_w n => exact lv_ldc2 hx hb hown (hts _ (rv_w_in hok)) hd (hg0 _ (.long k.toInt64 :: st) h)
  | lconst n => exact lv_lconst hx hb hd (of_decide_eq_true hok) (hg0 _ (.long k.toInt64 :: st) h)
  | iload n =>
    obtain ⟨x, h1, h2⟩ := rv_oi_some h
    exact lv_iload hx hb hd (hl.2.2 _ _ h1) (hg0 _ (.int x :: st) h2)
  | iload_n n =>
    obtain ⟨x, h1, h2⟩ := rv_oi_some h
    exact lv_iload_n hx hb hd rfl (hl.2.2 _ _ h1) (hg0 _ (.int x :: st) h2)
  | lload n =>
    obtain ⟨x, h1, h2⟩ := rv_ol_some h
    exact lv_lload hx hb hd (hl.2.2 _ _ h1) (hg0 _ (.long x :: st) h2)
  | lload_n n =>
    obtain ⟨x, h1, h2⟩ := rv_ol_some h
    exact lv_lload_n hx hb hd rfl (hl.2.2 _ _ h1) (hg0 _ (.long x :: st) h2)
  | aload n =>
    obtain ⟨x, h1, h2⟩ := rv_oa_some h
    exact lv_aload hx hb hd (hl.2.2 _ _ h1) (hg0 _ (.ref x :: st) h2)
  | aload_n n =>
    obtain ⟨x, h1, h2⟩ := rv_oa_some h
    exact lv_aload_n hx hb hd rfl (hl.2.2 _ _ h1) (hg0 _ (.ref x :: st) h2)
  | istore n =>
    obtain ⟨x, t, rfl, h2⟩ := rv_i1_some h
    exact lv_istore hx hb hd (rv_la_has hl) (of_decide_eq_true hok) rfl (fun ls' hl' => hg _ _ _ _ h2 (rv_lh_put (v := .int x) hfv hl'))
  | istore_n n =>
    obtain ⟨x, t, rfl, h2⟩ := rv_i1_some h
    exact lv_istore_n hx hb hd rfl (rv_la_has hl) (of_decide_eq_true hok) rfl (fun ls' hl' => hg _ _ _ _ h2 (rv_lh_put (v := .int x) hfv hl'))
  | lstore n =>
    obtain ⟨x, t, rfl, h2⟩ := rv_l1_some h
    exact lv_lstore hx hb hd (rv_la_has hl) (of_decide_eq_true hok) rfl (fun ls' hl' => hg _ _ _ _ h2 (rv_lh_put2 (v := .long x) hfv hl'))
  | lstore_n n =>
    obtain ⟨x, t, rfl, h2⟩ := rv_l1_some h
    exact lv_lstore_n hx hb hd rfl (rv_la_has hl) (of_decide_eq_true hok) rfl (fun ls' hl' => hg _ _ _ _ h2 (rv_lh_put2 (v := .long x) hfv hl'))
  | astore n =>
    obtain ⟨x, t, rfl, h2⟩ := rv_a1_some h
    exact lv_astore hx hb hd (rv_la_has hl) (of_decide_eq_true hok) rfl (fun ls' hl' => hg _ _ _ _ h2 (rv_lh_put (v := .ref x) hfv hl'))
  | astore_n n =>
    obtain ⟨x, t, rfl, h2⟩ := rv_a1_some h
    exact lv_astore_n hx hb hd rfl (rv_la_has hl) (of_decide_eq_true hok) rfl (fun ls' hl' => hg _ _ _ _ h2 (rv_lh_put (v := .ref x) hfv hl'))
  | iinc n z =>
    obtain ⟨x, h1, h2⟩ := rv_oi_some h
    obtain ⟨j, hj⟩ := List.getElem?_of_mem (rv_la_mem (ad := ad) (fv := fv) h1)
    have hok := (Bool.and_eq_true _ _).mp hok
    exact lv_iinc (v := x + k) hx hb hd (rv_la_has hl) hj (by rw [of_decide_eq_true hok.1]) (of_decide_eq_true hok.2) rfl (fun ls' hl' => hg _ _ _ _ h2 (rv_lh_put (v := .int (x + k)) hfv hl'))
  | iadd => obtain ⟨x, y, t, rfl, h2⟩ := rv_i2_some h; exact lv_iadd hx hb hd (hg0 _ (.int (x + y) :: t) h2)
  | isub => obtain ⟨x, y, t, rfl, h2⟩ := rv_i2_some h; exact lv_isub hx hb hd (hg0 _ (.int (x - y) :: t) h2)
  | imul => obtain ⟨x, y, t, rfl, h2⟩ := rv_i2_some h; exact lv_imul hx hb hd (hg0 _ (.int (x * y) :: t) h2)
  | iand => obtain ⟨x, y, t, rfl, h2⟩ := rv_i2_some h; exact lv_iand hx hb hd (hg0 _ (.int (x &&& y) :: t) h2)
  | ior => obtain ⟨x, y, t, rfl, h2⟩ := rv_i2_some h; exact lv_ior hx hb hd (hg0 _ (.int (x ||| y) :: t) h2)
  | ixor => obtain ⟨x, y, t, rfl, h2⟩ := rv_i2_some h; exact lv_ixor hx hb hd (hg0 _ (.int (x ^^^ y) :: t) h2)
  | ishl => obtain ⟨x, y, t, rfl, h2⟩ := rv_i2_some h; exact lv_ishl hx hb hd (hg0 _ (.int (x <<< (y &&& 31)) :: t) h2)
  | ishr => obtain ⟨x, y, t, rfl, h2⟩ := rv_i2_some h; exact lv_ishr hx hb hd (hg0 _ (.int (x >>> (y &&& 31)) :: t) h2)
  | iushr => obtain ⟨x, y, t, rfl, h2⟩ := rv_i2_some h; exact lv_iushr hx hb hd rfl (hg0 _ (.int (x.toUInt32 >>> (y.toUInt32 &&& Int32.toUInt32 31)).toInt32 :: t) h2)
  | idiv =>
    obtain ⟨x, y, t, rfl, h2⟩ := rv_i2_some h
    obtain ⟨h3, h4⟩ := rv_cond_n h2
    exact lv_idiv hx hb hd (rv_eq_n h3) (hg0 _ (.int (x / y) :: t) h4)
  | irem =>
    obtain ⟨x, y, t, rfl, h2⟩ := rv_i2_some h
    obtain ⟨h3, h4⟩ := rv_cond_n h2
    exact lv_irem hx hb hd (rv_eq_n h3) (hg0 _ (.int (x - x / y * y) :: t) h4)
  | lmul => obtain ⟨x, y, t, rfl, h2⟩ := rv_l2_some h; exact lv_lmul hx hb hd (hg0 _ (.long (x * y) :: t) h2)
  | land => obtain ⟨x, y, t, rfl, h2⟩ := rv_l2_some h; exact lv_land hx hb hd (hg0 _ (.long (x &&& y) :: t) h2)
  | lor => obtain ⟨x, y, t, rfl, h2⟩ := rv_l2_some h; exact lv_lor hx hb hd (hg0 _ (.long (x ||| y) :: t) h2)
  | ldiv =>
    obtain ⟨x, y, t, rfl, h2⟩ := rv_l2_some h
    obtain ⟨h3, h4⟩ := rv_cond_n h2
    exact lv_ldiv hx hb hd (rv_eqL_n h3) (hg0 _ (.long (x / y) :: t) h4)
  | lrem =>
    obtain ⟨x, y, t, rfl, h2⟩ := rv_l2_some h
    obtain ⟨h3, h4⟩ := rv_cond_n h2
    exact lv_lrem hx hb hd (rv_eqL_n h3) (hg0 _ (.long (x - x / y * y) :: t) h4)
  | lshl => obtain ⟨x, y, t, rfl, h2⟩ := rv_li_some h; exact lv_lshl hx hb hd rfl (hg0 _ (.long (x <<< (y.toInt64 &&& 63)) :: t) h2)
  | lshr => obtain ⟨x, y, t, rfl, h2⟩ := rv_li_some h; exact lv_lshr hx hb hd rfl (hg0 _ (.long (x >>> (y.toInt64 &&& 63)) :: t) h2)
  | lcmp => obtain ⟨x, y, t, rfl, h2⟩ := rv_l2_some h; exact W.lcmp hx hb hd (hg0 _ (.int (lg_cmp x y) :: t) h2)
  | i2l => obtain ⟨x, t, rfl, h2⟩ := rv_i1_some h; exact lv_i2l hx hb hd rfl (hg0 _ (.long x.toInt64 :: t) h2)
  | i2b => obtain ⟨x, t, rfl, h2⟩ := rv_i1_some h; exact lv_i2b hx hb hd rfl (hg0 _ (.int x.toInt8.toInt32 :: t) h2)
  | i2s => obtain ⟨x, t, rfl, h2⟩ := rv_i1_some h; exact lv_i2s hx hb hd rfl (hg0 _ (.int x.toInt16.toInt32 :: t) h2)
  | i2c => obtain ⟨x, t, rfl, h2⟩ := rv_i1_some h; exact lv_i2c hx hb hd rfl (hg0 _ (.int (x.toUInt32 % 65536).toInt32 :: t) h2)
  | dup =>
    have h : rv_v1 st (fun x r => G (pc + 1) lv (x :: x :: r) w) = some r := h
    unfold rv_v1 at h; split at h
    · exact lv_dup hx hb hd rfl (hg0 _ (.int _ :: .int _ :: _) h)
    · exact lv_dup hx hb hd rfl (hg0 _ (.ref _ :: .ref _ :: _) h)
    · cases h
  | dup2 =>
    have h : rv_v2 st (fun x y r => G (pc + 1) lv (y :: x :: y :: x :: r) w) = some r := h
    unfold rv_v2 at h; split at h
    · exact lv_dup2_11 hx hb hd rfl rfl (hg0 _ (.int _ :: .int _ :: .int _ :: .int _ :: _) h)
    · exact lv_dup2_11 hx hb hd rfl rfl (hg0 _ (.int _ :: .ref _ :: .int _ :: .ref _ :: _) h)
    · cases h
  | pop =>
    have h : rv_v1 st (fun _ r => G (pc + 1) lv r w) = some r := h
    unfold rv_v1 at h; split at h
    · exact lv_pop hx hb hd rfl (hg0 _ _ h)
    · exact lv_pop hx hb hd rfl (hg0 _ _ h)
    · cases h
  | ifCond q n =>
    obtain ⟨x, t, rfl, h2⟩ := rv_i1_some h
    exact (rv_cmpW q hx hb hok).1 hd (fun z => by rw [z] at h2; exact hg0 _ t h2) (fun z => by rw [z] at h2; exact hg0 _ t h2)
  | if_icmp q n =>
    obtain ⟨x, y, t, rfl, h2⟩ := rv_i2_some h
    exact (rv_cmpW q hx hb hok).2 hd (fun z => by rw [z] at h2; exact hg0 _ t h2) (fun z => by rw [z] at h2; exact hg0 _ t h2)
  | goto n => exact lv_goto hx hb hd (rv_tg_eq hok) (hg0 _ st h)
  | tableswitch d lo hi os =>
    obtain ⟨x, t, rfl, h2⟩ := rv_i1_some h
    have hok : (decide (hi = lo + (os.toList.length : Int) - 1) && rv_tg pc d && os.toList.all (rv_tg pc) && decide (-1000 ≤ lo) && decide (hi ≤ 1000)) = true := hok
    simp only [Bool.and_eq_true, decide_eq_true_eq] at hok
    obtain ⟨⟨⟨⟨o1, o2⟩, o3⟩, o4⟩, o5⟩ := hok
    rcases rv_tsw_some h2 with ⟨j, o, z1, z2, z3⟩ | ⟨z1, z2⟩
    · have hj : j < os.toList.length := (List.getElem?_eq_some_iff.mp z1).1
      have hv : x.toInt = lo + j := by rw [z2]; exact rv_ofI (by omega) (by omega)
      refine lv_tableIn hx hb hd (by omega) (by omega) (off := o) ?_ (rv_tg_eq (List.all_eq_true.mp o3 o (List.mem_of_getElem? z1))) (hg0 _ t z3)
      rw [hv, show (lo + (j : Int) - lo).toNat = j by omega, ← Array.getElem?_toList]
      exact z1
    · refine lv_tableOut hx hb hd ?_ (rv_tg_eq o2) (hg0 _ t z2)
      by_cases hlo : x.toInt < lo
      · exact Or.inl hlo
      · right
        refine Int.not_le.mp fun hhi => ?_
        refine z1 (x.toInt - lo).toNat (by omega) ?_
        rw [show lo + ((x.toInt - lo).toNat : Int) = x.toInt by omega, Int32.ofInt_toInt]
  | lookupswitch d os =>
    obtain ⟨x, t, rfl, h2⟩ := rv_i1_some h
    have hok : ((os.toList.zip (os.toList.drop 1)).all (fun (a, next) => a.1 < next.1) && rv_tg pc d && os.toList.all (fun q => rv_tg pc q.2 && decide (-1000 ≤ q.1) && decide (q.1 ≤ 1000))) = true := hok
    rw [Bool.and_eq_true, Bool.and_eq_true] at hok
    obtain ⟨⟨o1, o2⟩, o3⟩ := hok
    have o4 : ∀ q ∈ os.toList, rv_tg pc q.2 = true ∧ -1000 ≤ q.1 ∧ q.1 ≤ 1000 := fun q hq => by
      have := List.all_eq_true.mp o3 q hq
      simp only [Bool.and_eq_true, decide_eq_true_eq] at this
      exact ⟨this.1.1, this.1.2, this.2⟩
    obtain ⟨off, z1, z2, z3⟩ := rv_lsw_some (fun q hq => (o4 q hq).2) h2
    refine lv_lookup hx hb hd o1 z1 (rv_tg_eq ?_) (hg0 _ t z2)
    rcases z3 with z3 | ⟨q, hq, z3⟩
    · rw [z3]; exact o2
    · rw [← z3]; exact (o4 q hq).1
  | iaload =>
    obtain ⟨x, y, t, rfl, h2⟩ := rv_ai_some h
    obtain ⟨z, h3, h4⟩ := rv_bind_s h2
    exact (rv_loadW hinj hN C0 hG hw hP hS hl).1 hd z h3 h4
  | baload =>
    obtain ⟨x, y, t, rfl, h2⟩ := rv_ai_some h
    obtain ⟨z, h3, h4⟩ := rv_bind_s h2
    exact (rv_loadW hinj hN C0 hG hw hP hS hl).2.1 hd z h3 h4
  | aaload =>
    obtain ⟨x, y, t, rfl, h2⟩ := rv_ai_some h
    obtain ⟨z, h3, h4⟩ := rv_bind_s h2
    exact (rv_loadW hinj hN C0 hG hw hP hS hl).2.2.1 hd z h3 h4
  | arraylength =>
    obtain ⟨x, t, rfl, h2⟩ := rv_a1_some h
    obtain ⟨z, h3, h4⟩ := rv_bind_s h2
    exact (rv_loadW (i := 0) hinj hN C0 hG hw hP hS hl).2.2.2 hd z h3 h4
  | iastore =>
    obtain ⟨q, j, x, t, rfl, h2⟩ := rv_aii_some h
    obtain ⟨w', h3, h4⟩ := rv_bind_s h2
    obtain ⟨xs, z1, z2, rfl⟩ := rv_stI_some h3
    refine va_iast hx hb hK hP (rv_cw_D hinj fv dA hw) hS q 0 (rv_cw_at z1) rfl z2 hd (fun H1 locs1 hP1 _ hS1 => ?_)
    refine hG _ _ _ _ _ _ _ h4 (rv_wl hw _ _) ?_ hS1 hl
    rw [← rv_stI_cw 0 z2]
    exact hP1
  | bastore =>
    obtain ⟨q, j, x, t, rfl, h2⟩ := rv_aii_some h
    obtain ⟨w', h3, h4⟩ := rv_bind_s h2
    obtain ⟨xs, z1, z2, rfl⟩ := rv_stB_some h3
    refine va_bast hx hb hK hP (rv_cw_D hinj fv dA hw) hS q 1 (rv_cw_at z1) rfl z2 hd (fun H1 locs1 hP1 _ hS1 => ?_)
    refine hG _ _ _ _ _ _ _ h4 (rv_wl hw _ _) ?_ hS1 hl
    rw [← rv_stI_cw 1 z2]
    rw [vp_nar_byte] at hP1
    exact hP1
  | getfield n =>
    obtain ⟨q, t, rfl, h2⟩ := rv_a1_some h
    have str : (Nat.ble 1000 q && Nat.ble q 1013) = true → 1000 ≤ (q : Nat) ∧ (q : Nat) - 1000 < 14 ∧ 1000 + ((q : Nat) - 1000) = q ∧ 2000 + ((q : Nat) - 1000) = 1000 + q := by
      intro z
      have z := (Bool.and_eq_true _ _).mp z
      have z1 := Nat.le_of_ble_eq_true z.1
      have z2 := Nat.le_of_ble_eq_true z.2
      omega
    have hok : cond (Nat.beq (b % 10) 4) _ (cond (Nat.beq (b % 10) 5) _ _) = true := hok
    have h2 : rv_if (Nat.beq (b % 10) 1) _ (rv_if (Nat.beq (b % 10) 3) _ (rv_if (Nat.beq (b % 10) 4) _ _)) = some r := h2
    cases b1 : Nat.beq (b % 10) 1 with
    | true =>
      have e1 : b % 10 = 1 := Nat.eq_of_beq_eq_true b1
      rw [b1] at h2
      rw [e1] at hok
      have hfl : rv_fl M.1.cls n a b pos = true := ((Bool.and_eq_true _ _).mp hok).1
      obtain ⟨x, h3, h4⟩ := rv_bind_s h2
      obtain ⟨fs, z1, z2⟩ := rv_ldFI_some h3
      obtain ⟨⟨C, T, Nf⟩, hq', hb10, hlink⟩ := rv_fl_some hfl
      exact va_get (D := (dC, dI)) (ci := a) (v := .int x) (C := C) (T := T) (N := Nf) (ref := (T (b / 10)).1) hx hb hts (rv_cl_in a _ hq') hown hK hP q (rv_cw_at z1) hq' (b / 10) hb10 (hts _ hlink) (fun _ h9 => h9) (by rw [List.getElem?_map, z2]; rfl) hd (hg0 _ (.int x :: t) h4)
    | false =>
      rw [b1] at h2
      cases b3 : Nat.beq (b % 10) 3 with
      | true =>
        have e3 : b % 10 = 3 := Nat.eq_of_beq_eq_true b3
        rw [b3] at h2
        rw [e3] at hok
        have hfl : rv_fl M.1.cls n a b pos = true := ((Bool.and_eq_true _ _).mp hok).1
        obtain ⟨x, h3, h4⟩ := rv_bind_s h2
        obtain ⟨fs, z1, z2⟩ := rv_ldFR_some h3
        obtain ⟨⟨C, T, Nf⟩, hq', hb10, hlink⟩ := rv_fl_some hfl
        exact va_get (D := (dC, dI)) (ci := a) (v := .ref (ad x)) (C := C) (T := T) (N := Nf) (ref := (T (b / 10)).1) hx hb hts (rv_cl_in a _ hq') hown hK hP q (rv_cw_at z1) hq' (b / 10) hb10 (hts _ hlink) (fun _ h9 => h9) (by rw [List.getElem?_map, z2]; rfl) hd (hg0 _ (.ref x :: t) h4)
      | false =>
        rw [b3] at h2
        cases b4 : Nat.beq (b % 10) 4 with
        | true =>
          rw [b4] at h2 hok
          obtain ⟨h3, h4⟩ := rv_cond_s h2
          obtain ⟨y1, y2, y3, y4⟩ := str h3
          have hO := (hEn.1.1 ((q : Nat) - 1000) y2).2.2.1
          simp only [y3, y4] at hO
          exact vk_getf hx hb hO hS hown (hts _ (rv_w_in hok)) (fun _ h9 => h9) hd (hg0 _ (.ref (1000 + q) :: t) h4)
        | false =>
          rw [b4] at h2 hok
          obtain ⟨h3, h4⟩ := rv_cond_s h2
          obtain ⟨y1, y2, y3, y4⟩ := str h3
          cases b5 : Nat.beq (b % 10) 5 with
          | true =>
            have hok : cond (Nat.beq (b % 10) 5) _ _ = true := hok
            rw [b5] at hok
            have hO := (hEn.1.1 ((q : Nat) - 1000) y2).2.1
            simp only [y3] at hO
            exact vk_getf hx hb hO hS hown (hts _ (rv_w_in hok)) (fun _ h9 => h9) hd (hg0 _ (.int 0 :: t) h4)
          | false =>
            exfalso
            have hok : cond (Nat.beq (b % 10) 5) _ _ = true := hok
            rw [b5] at hok
            have hok := ((Bool.and_eq_true _ _).mp hok).2
            rw [b1, b3] at hok
            cases hok
  | putfield n =>
    have hok := (Bool.and_eq_true _ _).mp hok
    have hok2 : cond (Nat.beq (b % 10) 3) (rv_fp a b (.array .byte)) (cond (Nat.beq (b % 10) 2) (rv_fp a b .boolean) (rv_fp a b .int)) = true := hok.2
    have h : rv_if (Nat.beq (b % 10) 3) _ (rv_if (Nat.beq (b % 10) 2) _ _) = some r := h
    cases b3 : Nat.beq (b % 10) 3 with
    | true =>
      rw [b3] at h hok2
      obtain ⟨x, y, t, rfl, h2⟩ := rv_aa_some h
      obtain ⟨w', h3, h4⟩ := rv_bind_s h2
      exact rv_put_fld (own := M.1.cls) hinj C0 hG hw hP hS hl hok.1 hok2 rfl rfl h3 h4 hd
    | false =>
      rw [b3] at h hok2
      cases b2 : Nat.beq (b % 10) 2 with
      | true =>
        have h : rv_if (Nat.beq (b % 10) 2) _ _ = some r := h
        have hok2 : cond (Nat.beq (b % 10) 2) _ _ = true := hok2
        rw [b2] at h hok2
        obtain ⟨x, y, t, rfl, h2⟩ := rv_iaR_some h
        obtain ⟨h2a, h2⟩ := rv_cond_s h2
        obtain ⟨w', h3, h4⟩ := rv_bind_s h2
        have hy : y = 0 ∨ y = 1 := rv_bz_or h2a
        exact rv_put_fld (own := M.1.cls) hinj C0 hG hw hP hS hl hok.1 hok2 (by rcases hy with rfl | rfl <;> rfl) (by rcases hy with rfl | rfl <;> rfl) h3 h4 hd
      | false =>
        have h : rv_if (Nat.beq (b % 10) 2) _ _ = some r := h
        have hok2 : cond (Nat.beq (b % 10) 2) _ _ = true := hok2
        rw [b2] at h hok2
        obtain ⟨x, y, t, rfl, h2⟩ := rv_iaR_some h
        obtain ⟨w', h3, h4⟩ := rv_bind_s h2
        exact rv_put_fld (own := M.1.cls) hinj C0 hG hw hP hS hl hok.1 hok2 rfl rfl h3 h4 hd
  | getstatic n =>
    have hok : cond (Nat.beq a 0) _ (cond (Nat.beq a 1) _ _) = true := hok
    have h : rv_if (Nat.beq a 0) _ (rv_if (Nat.beq a 1) _ _) = some r := h
    cases a0 : Nat.beq a 0 with
    | true =>
      rw [a0] at hok h
      exact va_gets hx hb hEn.2.1.1 hS hown (hts _ (rv_w_in hok)) (fun _ h9 => h9) hd (hg0 _ (.ref 3000 :: st) h)
    | false =>
      rw [a0] at hok h
      have hok : cond (Nat.beq a 1) _ _ = true := hok
      have h : rv_if (Nat.beq a 1) _ _ = some r := h
      cases a1 : Nat.beq a 1 with
      | true =>
        rw [a1] at hok h
        exact va_gets hx hb hEn.2.2.1 hS hown (hts _ (rv_w_in hok)) (fun _ h9 => h9) hd (hg0 _ (.int 1 :: st) h)
      | false =>
        rw [a1] at hok h
        exact va_gets hx hb hEn.2.2.2 hS hown (hts _ (rv_w_in hok)) (fun _ h9 => h9) hd (hg0 _ (.retAddr 0 :: st) h)
  | invokevirtual n =>
    obtain ⟨z1, q, z2, z3⟩ := rv_call_some h
    obtain ⟨M', hM, hisC, hMet⟩ := hE _ _ _ _ z2 hw
    have hok : (rv_cl M n a pos (b / 4 - 1) && rv_cs a false && decide (0 < b / 4)) = true := hok
    simp only [Bool.and_eq_true, decide_eq_true_eq] at hok
    refine rv_callV hfv C0 hM hok.1.1 hok.1.2 hok.2 z1.2 z1.1 hisC hMet hd hP hS hl.1 (fun H1 locs1 hP1 hn1 hS1 => ?_)
    have := hG _ _ _ _ _ _ _ z3 hn1 hP1 hS1 hl
    simp only [rv_WW, List.map_append] at this
    rw [show (q.1.map (rv_cv ad fv)).toList = q.1.toList.map (rv_cv ad fv) by cases q.1 <;> rfl]
    exact this
  | invokestatic n =>
    have hok : cond (Nat.beq a 9999) _ (cond (Nat.beq a 9998) _ (cond (Nat.beq a 9997) _ _)) = true := hok
    have h : rv_if (Nat.beq a 9999) _ (rv_if (Nat.beq a 9998) _ (rv_if (Nat.beq a 9997) _ _)) = some r := h
    cases a9 : Nat.beq a 9999 with
    | true =>
      rw [a9] at hok h
      obtain ⟨s0, sp, d, dp, n0, t, rfl, h2⟩ := rv_cp_some h
      obtain ⟨h3, h4⟩ := rv_if_s h2
      obtain ⟨w', h5, h6⟩ := rv_bind_s h4
      obtain ⟨xs, ys, z1, z2, ⟨y1, y2, y3, y4, y5⟩, rfl⟩ := rv_cpy_some h5
      have hok : (rv_w pos (.methodLink M.1.cls n arraycopyName) && decide (1 ≤ M.2.2.2.2.2.1) && decide (8 + (nativeFrameWords "java/lang/System" "arraycopy" 5 + 11) ≤ M.2.2.2.2.2.2.1)) = true := hok
      simp only [Bool.and_eq_true, decide_eq_true_eq] at hok
      have h3 := Nat.le_of_ble_eq_true h3
      refine va_copyi (ty := .int) hx hb (by rw [hml]; exact hl.1.symm) hown (hts _ (rv_w_in hok.1.1)) (hts _ (rv_nat_in _ (by simp [rv_ntw]))) (hts _ (rv_nat_in _ (by simp [rv_ntw]))) (hts _ (rv_nat_in _ (by simp [rv_ntw]))) hK hP (rv_cw_D hinj fv dA hw) hS s0 d 0 0 (rv_cw_at z1) (rv_cw_at z2) rfl rfl rfl (Int32.not_lt.mpr y1) (Int32.not_lt.mpr y2) (Int32.not_lt.mpr y3) y4 y5 (fun _ _ => rfl) hok.1.2 (by rw [rv_sum_cat hfv]; exact Nat.le_trans (Nat.add_le_add_right h3 _) hok.2) hd (fun H1 locs1 hP1 _ hS1 => ?_)
      refine hG _ _ _ _ _ _ _ h6 (rv_wl hw _ _) ?_ hS1 hl
      rw [← rv_cpy_cw y5]
      exact hP1
    | false =>
      rw [a9] at hok h
      have hok : cond (Nat.beq a 9998) _ (cond (Nat.beq a 9997) _ _) = true := hok
      have h : rv_if (Nat.beq a 9998) _ (rv_if (Nat.beq a 9997) _ _) = some r := h
      cases a8 : Nat.beq a 9998 with
      | true =>
        rw [a8] at hok h
        obtain ⟨x, y, t, rfl, h2⟩ := rv_i2_some h
        obtain ⟨h3, h4⟩ := rv_if_s h2
        have hok : (rv_w pos (.methodLink M.1.cls n Lib.Math.max.name) && decide (1 ≤ M.2.2.2.2.2.1) && decide (21 ≤ M.2.2.2.2.2.2.1)) = true := hok
        simp only [Bool.and_eq_true, decide_eq_true_eq] at hok
        have h3 := Nat.le_of_ble_eq_true h3
        exact va_mmax hx hb (by rw [hml]; exact hl.1.symm) hown (hts _ (rv_w_in hok.1.1)) (hts _ (rv_nat_in _ (by simp [rv_ntw]))) (hts _ (rv_nat_in _ (by simp [rv_ntw]))) (hts _ (rv_nat_in _ (by simp [rv_ntw]))) hok.1.2 (by rw [rv_sum_cat hfv]; exact Nat.le_trans (Nat.add_le_add_right h3 _) hok.2) (Nat.le_refl _) (Nat.le_refl _) hd (hg0 _ (.int (rv_max x y) :: t) h4)
      | false =>
        rw [a8] at hok h
        have hok : cond (Nat.beq a 9997) _ _ = true := hok
        have h : rv_if (Nat.beq a 9997) _ _ = some r := h
        cases a7 : Nat.beq a 9997 with
        | true =>
          rw [a7] at hok h
          obtain ⟨x, y, t, rfl, h2⟩ := rv_i2_some h
          obtain ⟨h3, h4⟩ := rv_if_s h2
          have hok : (rv_w pos (.methodLink M.1.cls n Lib.Math.min.name) && decide (1 ≤ M.2.2.2.2.2.1) && decide (21 ≤ M.2.2.2.2.2.2.1)) = true := hok
          simp only [Bool.and_eq_true, decide_eq_true_eq] at hok
          have h3 := Nat.le_of_ble_eq_true h3
          exact va_mmin hx hb (by rw [hml]; exact hl.1.symm) hown (hts _ (rv_w_in hok.1.1)) (hts _ (rv_nat_in _ (by simp [rv_ntw]))) (hts _ (rv_nat_in _ (by simp [rv_ntw]))) (hts _ (rv_nat_in _ (by simp [rv_ntw]))) hok.1.2 (by rw [rv_sum_cat hfv]; exact Nat.le_trans (Nat.add_le_add_right h3 _) hok.2) (Nat.le_refl _) (Nat.le_refl _) hd (hg0 _ (.int (rv_min x y) :: t) h4)
        | false =>
          rw [a7] at hok h
          obtain ⟨z1, q, z2, z3⟩ := rv_call_some h
          obtain ⟨M', hM, hisC, hMet⟩ := hE _ _ _ _ z2 hw
          have hok : (rv_cl M n a pos (b / 4) && rv_cs a true) = true := hok
          simp only [Bool.and_eq_true] at hok
          refine rv_callS hfv C0 hM hok.1 hok.2 z1.2 z1.1 hMet hd hP hS hl.1 (fun H1 locs1 hP1 hn1 hS1 => ?_)
          have := hG _ _ _ _ _ _ _ z3 hn1 hP1 hS1 hl
          simp only [rv_WW, List.map_append] at this
          rw [show (q.1.map (rv_cv ad fv)).toList = q.1.toList.map (rv_cv ad fv) by cases q.1 <;> rfl]
          exact this
  | ireturn =>
    obtain ⟨x, t, rfl, h2⟩ := rv_i1_some h
    obtain ⟨rfl, h3⟩ := rv_end_some h2
    have hok : decide (M.2.2.2.1 = some (cond (Nat.beq a 0) FieldType.int (cond (Nat.beq a 1) FieldType.boolean (cond (Nat.beq a 2) FieldType.byte FieldType.char)))) = true := hok
    have hok := hr.trans (of_decide_eq_true hok)
    have h3 : rv_if (Nat.beq a 0) _ (rv_if (Nat.beq a 1) _ (rv_if (Nat.beq a 2) _ _)) = some r := h3
    cases a0 : Nat.beq a 0 with
    | true =>
      rw [a0] at hok h3
      exact W.iret hx hb hok (hq (some (.int x)) (Option.some.inj h3).symm) hS.2.2 hd hlocks
    | false =>
      rw [a0] at hok h3
      have h3 : rv_if (Nat.beq a 1) _ (rv_if (Nat.beq a 2) _ _) = some r := h3
      have hok : meth.sig.returnType = some (cond (Nat.beq a 1) FieldType.boolean (cond (Nat.beq a 2) FieldType.byte FieldType.char)) := hok
      cases a1 : Nat.beq a 1 with
      | true =>
        rw [a1] at hok h3
        obtain ⟨y1, y2⟩ := rv_cond_s h3
        have hy : x = 0 ∨ x = 1 := rv_bz_or y1
        exact W.zret hx hb hok (by rcases hy with rfl | rfl <;> rfl) (hq (some (.int x)) (Option.some.inj y2).symm) hS.2.2 hd hlocks
      | false =>
        rw [a1] at hok h3
        have h3 : rv_if (Nat.beq a 2) _ _ = some r := h3
        have hok : meth.sig.returnType = some (cond (Nat.beq a 2) FieldType.byte FieldType.char) := hok
        cases a2 : Nat.beq a 2 with
        | true =>
          rw [a2] at hok h3
          obtain ⟨y1, y2⟩ := rv_cond_s h3
          obtain ⟨j, hj, hx0⟩ := rv_toN (n := 0) (by decide) (Nat.le_of_ble_eq_true y1)
          have hy : x = 0 := by rw [hx0, show j = 0 by omega]; rfl
          exact W.zret hx hb hok (by rw [hy]; rfl) (hq (some (.int x)) (Option.some.inj y2).symm) hS.2.2 hd hlocks
        | false =>
          rw [a2] at hok h3
          obtain ⟨y1, y2⟩ := rv_cond_s h3
          obtain ⟨j, hj, hxj⟩ := rv_toN (n := 255) (by decide) (Nat.le_of_ble_eq_true y1)
          exact W.zret hx hb hok (by rw [hxj]; exact (pk_charN (by omega)).1) (hq (some (.int x)) (Option.some.inj y2).symm) hS.2.2 hd hlocks
  | lreturn =>
    obtain ⟨x, t, rfl, h2⟩ := rv_l1_some h
    obtain ⟨rfl, h3⟩ := rv_end_some h2
    exact W.lret hx hb (hr.trans (of_decide_eq_true hok)) (hq (some (.long x)) (Option.some.inj h3).symm) hS.2.2 hd hlocks
  | areturn =>
    obtain ⟨x, t, rfl, h2⟩ := rv_a1_some h
    obtain ⟨rfl, h3⟩ := rv_end_some h2
    have hok : (decide (M.2.2.2.1 = some (.array .int)) || decide (M.2.2.2.1 = some (.object "java/lang/String"))) = true := hok
    simp only [Bool.or_eq_true, decide_eq_true_eq] at hok
    rcases hok with hok | hok
    · exact W.aret hx hb (hr.trans hok) (Or.inr ⟨_, rfl⟩) (Or.inr ⟨_, rfl⟩) (hq (some (.ref x)) (Option.some.inj h3).symm) hS.2.2 hd hlocks
    · exact W.aret hx hb (hr.trans hok) (Or.inl ⟨_, rfl⟩) (Or.inr ⟨_, rfl⟩) (hq (some (.ref x)) (Option.some.inj h3).symm) hS.2.2 hd hlocks
  | return_ =>
    obtain ⟨rfl, h3⟩ := rv_end_some h
    exact W.vret hx hb (hr.trans (of_decide_eq_true hok)) (hq none (Option.some.inj h3).symm) hS.2.2 hd hlocks
  | _ => cases h
end SNX
end
section
/-! SOUNDNESS, the end: what the abstract machine gives is a contract -/
theorem rv_lk_mem : ∀ {cd : rv_C} {pc : Nat} {x : rv_I}, rv_lk cd pc = some x → (pc, x) ∈ cd
  | [], pc, x, h => by cases h
  | q :: l, pc, x, h => by
    rw [rv_lk] at h
    cases hb : Nat.beq q.1 pc with
    | true =>
      rw [hb] at h
      have h : q.2 = x := Option.some.inj h
      have h1 : q.1 = pc := Nat.eq_of_beq_eq_true hb
      rw [← h, ← h1]
      exact List.mem_cons_self
    | false =>
      rw [hb] at h
      exact List.mem_cons_of_mem _ (rv_lk_mem h)
def rv_RT (l : Launch) (dC : Nat → ClassId) (dI : Nat → Nat → Nat) (dA : Nat → ClassId) (ad : Nat → Nat) (fv : Value) (N n : Nat) : Prop := ∀ (M : rv_M), (∃ q, rv_okM M q = true) → ∀ (p : Program) (e : Env) (s : State) (m : MethodId) (args : Array Value) (below : List Frame) (meth : Method) (c : Code) (r : rv_X),
  rv_ctx dC dI dA ad fv N M p s m args meth c → rv_HG l dC dI dA ad fv N M p e s m args below meth c r (rv_go n M.2.2.2.2.2.2.2)
theorem rv_RT_E {l : Launch} {dC : Nat → ClassId} {dI : Nat → Nat → Nat} {dA : Nat → ClassId} {ad : Nat → Nat} {fv : Value} {N n : Nat} (hfv : fv.category = 1) (hRT : rv_RT l dC dI dA ad fv N n) : rv_HE l dC dI dA ad fv N (rv_E1 (rv_go n)) := by
  intro k as w q h hw
  unfold rv_E1 at h
  cases hM : rv_ms[k]? with
  | none => rw [hM] at h; cases h
  | some M =>
    rw [hM] at h
    simp only [Option.bind_some] at h
    obtain ⟨h1, h2⟩ := rv_cond_s h
    have h1 := (Bool.and_eq_true _ _).mp h1
    have hok := rv_ms_ok k M hM
    refine ⟨M, rfl, h1.1, ?_⟩
    refine Met.ofW (cc := M.2.1) (maxL := M.2.2.1) (ret := M.2.2.2.1) (rv_okM_some hok).2.2.2.2.2.2.1 rfl ?_
    intro p e s m args below meth c s₁ B hml hv
    obtain ⟨rfl, hP, hK, hEn, hSt⟩ := hv
    have hts0 := atoms_spec (ws := rv_ws M) B.pre
    have hl := lv_entry (as.map (rv_cv ad fv)) (n := M.2.2.1) (by rw [rv_sl_len ad hfv]; exact Nat.le_of_ble_eq_true h1.2)
    rw [lg_entry_eq]
    exact hRT M hok p e s m _ below meth c q ⟨B.exec, B.bytes, B.returns, hml, findClass_of_methodNamed B.named, fun w hw => hts0 w (List.mem_cons_of_mem _ hw), B.notSynchronized, hK, hEn, hSt⟩ 0 (rv_ent M.2.2.1 as) [] w s.heap [] _ h2 hw hP va_S.rf
      ⟨hl.1, hl.2.1, fun i v hi => hl.2.2 (i, rv_cv ad fv v) (by have := rv_ent_mem ad hfv as M.2.2.1 0 i v hi; rwa [Nat.add_zero] at this)⟩
theorem rv_RT_all {l : Launch} {dC : Nat → ClassId} {dI : Nat → Nat → Nat} {dA : Nat → ClassId} {ad : Nat → Nat} {fv : Value} {N : Nat} (hinj : ∀ i j, i < N → j < N → ad i = ad j → i = j) (hN : N ≤ 1000) (hfv : fv.category = 1) : ∀ n, rv_RT l dC dI dA ad fv N n := by
  intro n
  induction n with
  | zero => intro M hok p e s m args below meth c r C0 pc lv st w H locs ls h; cases h
  | succ n ih =>
    intro M hok p e s m args below meth c r C0 pc lv st w H locs ls h hw hP hS hl
    rw [rv_go_succ] at h
    cases hx : rv_lk M.2.2.2.2.2.2.2 pc with
    | none => rw [hx] at h; cases h
    | some x =>
      rw [hx] at h
      have hI := (rv_okM_some hok).2.2.2.2.2.2.2 (pc, x) (rv_lk_mem hx)
      obtain ⟨i, len, a, b, pos, k, dead⟩ := x
      have h : rv_stepI _ _ a b k pc (rv_kill dead lv) st w i = some r := h
      have hI := (Bool.and_eq_true _ _).mp hI
      exact rv_stepW hinj hN hfv C0 (ih M hok p e s m args below meth c r C0) (rv_RT_E hfv ih) hw hP hS (rv_lh_kill _ hl) i (of_decide_eq_true hI.1) hI.2 h
/-- THE CONTRACT out of the abstract machine -/
theorem rv_met {l : Launch} {dC : Nat → ClassId} {dI : Nat → Nat → Nat} {dA : Nat → ClassId} {ad : Nat → Nat} {fv : Value} {N : Nat} (hinj : ∀ i j, i < N → j < N → ad i = ad j → i = j) (hN : N ≤ 1000) (hfv : fv.category = 1) {k : Nat} {as : List Value} {w : rv_W} {q : rv_X} (h : rv_EV k as w = some q) (hw : w.length = N) {M : rv_M} (hM : rv_ms[k]? = some M) :
    Met l M.1 (rv_ws M) (rv_rm M) (rv_Pc dC dI dA ad fv N as w) (rv_Qc dC dI dA ad fv N q) 0 0 (rv_A ad N) := by
  obtain ⟨n, hn⟩ := rv_EV_iff h
  obtain ⟨M', hM', -, hMet⟩ := rv_RT_E hfv (rv_RT_all (l := l) (dC := dC) (dI := dI) (dA := dA) hinj hN hfv n) k as w q hn hw
  rw [hM] at hM'
  cases hM'
  exact hMet
end
section
set_option maxRecDepth 100000 in
set_option maxHeartbeats 4000000 in
theorem ev_X0_isKind (n1 : Int32) (w : rv_W) : rv_EV 0 [.int n1] w = (bif rv_cnd .lt n1 0 then some (some (.int 0), w) else (bif rv_cnd .ge n1 7 then some (some (.int 0), w) else some (some (.int 1), w))) := by
  have e : rv_EV 0 [.int n1] w = rv_GO rc_X0_isKind 0 [some (.int n1)] [] w := by
    rfl
  rw [e, ← rv_blk_eq [] 9]
  rfl
set_option maxRecDepth 100000 in
set_option maxHeartbeats 4000000 in
theorem ev_X0_isUnder (n1 : Int32) (n2 : Int32) (w : rv_W) : rv_EV 1 [.int n1, .int n2] w = rv_GO rc_X0_isUnder 4 [none, some (.int n2), some (.int n1), some (.int 0)] [] w := by
  have e : rv_EV 1 [.int n1, .int n2] w = rv_GO rc_X0_isUnder 0 [some (.int n1), some (.int n2), none, none] [] w := by
    rfl
  rw [e, ← rv_blk_eq [4] 6]
  rfl
set_option maxRecDepth 100000 in
set_option maxHeartbeats 4000000 in
theorem bk_X0_isUnder_4 (v1 : Int32) (v2 : Int32) (v3 : Int32) (w : rv_W) : rv_GO rc_X0_isUnder 4 [none, some (.int v1), some (.int v2), some (.int v3)] [] w = (bif rv_cnd .ge v3 7 then some (some (.int 0), w) else ((rv_ri (rv_EV 0 [.int v2] w)).bind fun q1 => (bif rv_cnd .eq q1.1 0 then some (some (.int 0), q1.2) else (bif rv_cnd .ne v2 v1 then ((rv_ldI q1.2 3000 v2).bind fun x2 => rv_GO rc_X0_isUnder 4 [none, some (.int v1), some (.int x2), some (.int (v3 + 1))] [] q1.2) else some (some (.int 1), q1.2))))) := by
  rw [← rv_blk_eq [4] 17]
  rfl
set_option maxRecDepth 100000 in
set_option maxHeartbeats 4000000 in
theorem ev_X0_adds (n1 : Int32) (n2 : Int32) (n3 : Int32) (n4 : Int32) (w : rv_W) : rv_EV 2 [.int n1, .int n2, .int n3, .int n4] w = (bif rv_eq n1 (Int32.ofInt 1) then some (some (.int 128), w) else (bif rv_eq n1 (Int32.ofInt 2) then some (some (.int 32), w) else (bif rv_eq n1 (Int32.ofInt 3) then some (some (.int 8), w) else (bif rv_eq n1 (Int32.ofInt 4) then ((rv_ri (rv_EV 209 [.int n4] w)).bind fun q1 => some (some (.int (8 + q1.1)), q1.2)) else (bif rv_eq n1 (Int32.ofInt 5) then (bif rv_cnd .ne n3 0 then some (some (.int 0), w) else some (some (.int 64), w)) else (bif rv_eq n1 (Int32.ofInt 6) then some (some (.int (128 + n2)), w) else some (some (.int 64), w))))))) := by
  have e : rv_EV 2 [.int n1, .int n2, .int n3, .int n4] w = rv_GO rc_X0_adds 0 [some (.int n1), some (.int n2), some (.int n3), some (.int n4)] [] w := by
    rfl
  rw [e, ← rv_blk_eq [] 8]
  rfl
set_option maxRecDepth 100000 in
set_option maxHeartbeats 4000000 in
theorem ev_X0_cools (n1 : Int32) (w : rv_W) : rv_EV 3 [.int n1] w = (bif rv_eq n1 (Int32.ofInt 1) then some (some (.int 8), w) else (bif rv_eq n1 (Int32.ofInt 2) then some (some (.int 3), w) else (bif rv_eq n1 (Int32.ofInt 3) then some (some (.int 3), w) else (bif rv_eq n1 (Int32.ofInt 4) then some (some (.int 3), w) else (bif rv_eq n1 (Int32.ofInt 5) then some (some (.int 10), w) else (bif rv_eq n1 (Int32.ofInt 6) then some (some (.int 16), w) else some (some (.int 5), w))))))) := by
  have e : rv_EV 3 [.int n1] w = rv_GO rc_X0_cools 0 [some (.int n1)] [] w := by
    rfl
  rw [e, ← rv_blk_eq [] 5]
  rfl
set_option maxRecDepth 100000 in
set_option maxHeartbeats 4000000 in
theorem ev_X0_nose (n1 : Int32) (w : rv_W) : rv_EV 4 [.int n1] w = (bif rv_eq n1 (Int32.ofInt 2) then some (some (.int 50), w) else (bif rv_eq n1 (Int32.ofInt 3) then some (some (.int 30), w) else (bif rv_eq n1 (Int32.ofInt 4) then some (some (.int 10), w) else (bif rv_eq n1 (Int32.ofInt 5) then some (some (.int 400), w) else (bif rv_eq n1 (Int32.ofInt 6) then some (some (.int 300), w) else some (some (.int 100), w)))))) := by
  have e : rv_EV 4 [.int n1] w = rv_GO rc_X0_nose 0 [some (.int n1)] [] w := by
    rfl
  rw [e, ← rv_blk_eq [] 5]
  rfl
set_option maxRecDepth 100000 in
set_option maxHeartbeats 4000000 in
theorem ev_X1_begin (p : Nat) (n1 : Int32) (n2 : Int32) (w : rv_W) (hp : (rv_obj w p 0).isSome = true) : rv_EV 5 [.ref p, .int n1, .int n2] w = ((rv_stF w p 0 1 (.int n1)).bind fun w1 => ((rv_stF w1 p 0 2 (.int n2)).bind fun w2 => rv_GO rc_X1_begin 12 [some (.ref p), none, none, some (.int 0)] [] w2)) := by
  have e : rv_EV 5 [.ref p, .int n1, .int n2] w = rv_GO rc_X1_begin 0 [some (.ref p), some (.int n1), some (.int n2), none] [] w := by
    show cond ((rv_obj w p 0).isSome && true) _ _ = _
    rw [hp]
    rfl
  rw [e, ← rv_blk_eq [12] 10]
  rfl
set_option maxRecDepth 100000 in
set_option maxHeartbeats 4000000 in
theorem bk_X1_begin_12 (v0 : Nat) (v3 : Int32) (w : rv_W) : rv_GO rc_X1_begin 12 [some (.ref v0), none, none, some (.int v3)] [] w = (bif rv_cnd .ge v3 40 then some (none, w) else ((rv_ldFR w v0 0 0).bind fun a1 => ((rv_stI w a1 v3 0).bind fun w2 => rv_GO rc_X1_begin 12 [some (.ref v0), none, none, some (.int (v3 + 1))] [] w2))) := by
  rw [← rv_blk_eq [12] 12]
  rfl
set_option maxRecDepth 100000 in
set_option maxHeartbeats 4000000 in
theorem ev_X1_isMissing (p : Nat) (w : rv_W) (hp : (rv_obj w p 0).isSome = true) : rv_EV 6 [.ref p] w = ((rv_ldFI w p 0 1).bind fun x1 => (bif rv_cnd .ne x1 0 then some (some (.int 0), w) else some (some (.int 1), w))) := by
  have e : rv_EV 6 [.ref p] w = rv_GO rc_X1_isMissing 0 [some (.ref p)] [] w := by
    show cond ((rv_obj w p 0).isSome && true) _ _ = _
    rw [hp]
    rfl
  rw [e, ← rv_blk_eq [] 7]
  rfl
set_option maxRecDepth 100000 in
set_option maxHeartbeats 4000000 in
theorem ev_X1_hasSpan (p : Nat) (n1 : Int32) (n2 : Int32) (w : rv_W) (hp : (rv_obj w p 0).isSome = true) : rv_EV 7 [.ref p, .int n1, .int n2] w = (bif rv_cnd .lt n1 0 then some (some (.int 0), w) else (bif rv_cnd .lt n2 0 then some (some (.int 0), w) else ((rv_ldFI w p 0 2).bind fun x1 => (bif rv_cnd .gt n2 x1 then some (some (.int 0), w) else ((rv_ldFI w p 0 2).bind fun x2 => (bif rv_cnd .gt n1 (x2 - n2) then some (some (.int 0), w) else some (some (.int 1), w))))))) := by
  have e : rv_EV 7 [.ref p, .int n1, .int n2] w = rv_GO rc_X1_hasSpan 0 [some (.ref p), some (.int n1), some (.int n2)] [] w := by
    show cond ((rv_obj w p 0).isSome && true) _ _ = _
    rw [hp]
    rfl
  rw [e, ← rv_blk_eq [] 18]
  rfl
set_option maxRecDepth 100000 in
set_option maxHeartbeats 4000000 in
theorem ev_X1_put (p : Nat) (n1 : Int32) (n2 : Int32) (w : rv_W) (hp : (rv_obj w p 0).isSome = true) : rv_EV 8 [.ref p, .int n1, .int n2] w = ((rv_ldFI w p 0 1).bind fun x1 => (bif rv_eq x1 (Int32.ofInt 8) then ((rv_ldFR w p 0 0).bind fun a6 => ((rv_stI w a6 n1 n2.toInt8.toInt32).bind fun w7 => some (none, w7))) else (bif rv_eq x1 (Int32.ofInt 16) then ((rv_ldFR w p 0 0).bind fun a4 => ((rv_stI w a4 n1 n2.toInt16.toInt32).bind fun w5 => some (none, w5))) else ((rv_ldFR w p 0 0).bind fun a2 => ((rv_stI w a2 n1 n2).bind fun w3 => some (none, w3)))))) := by
  have e : rv_EV 8 [.ref p, .int n1, .int n2] w = rv_GO rc_X1_put 0 [some (.ref p), some (.int n1), some (.int n2)] [] w := by
    show cond ((rv_obj w p 0).isSome && true) _ _ = _
    rw [hp]
    rfl
  rw [e, ← rv_blk_eq [] 12]
  rfl
set_option maxRecDepth 100000 in
set_option maxHeartbeats 4000000 in
theorem ev_J6_bitCount_0f7a4 (n1 : Int32) (w : rv_W) : rv_EV 209 [.int n1] w = some (some (.int ((((((((n1 - ((Int32.toUInt32 n1 >>> (Int32.toUInt32 1 &&& Int32.toUInt32 31)).toInt32 &&& 1431655765)) &&& 858993459) + ((Int32.toUInt32 (n1 - ((Int32.toUInt32 n1 >>> (Int32.toUInt32 1 &&& Int32.toUInt32 31)).toInt32 &&& 1431655765)) >>> (Int32.toUInt32 2 &&& Int32.toUInt32 31)).toInt32 &&& 858993459)) + (Int32.toUInt32 (((n1 - ((Int32.toUInt32 n1 >>> (Int32.toUInt32 1 &&& Int32.toUInt32 31)).toInt32 &&& 1431655765)) &&& 858993459) + ((Int32.toUInt32 (n1 - ((Int32.toUInt32 n1 >>> (Int32.toUInt32 1 &&& Int32.toUInt32 31)).toInt32 &&& 1431655765)) >>> (Int32.toUInt32 2 &&& Int32.toUInt32 31)).toInt32 &&& 858993459)) >>> (Int32.toUInt32 4 &&& Int32.toUInt32 31)).toInt32) &&& 252645135) + (Int32.toUInt32 (((((n1 - ((Int32.toUInt32 n1 >>> (Int32.toUInt32 1 &&& Int32.toUInt32 31)).toInt32 &&& 1431655765)) &&& 858993459) + ((Int32.toUInt32 (n1 - ((Int32.toUInt32 n1 >>> (Int32.toUInt32 1 &&& Int32.toUInt32 31)).toInt32 &&& 1431655765)) >>> (Int32.toUInt32 2 &&& Int32.toUInt32 31)).toInt32 &&& 858993459)) + (Int32.toUInt32 (((n1 - ((Int32.toUInt32 n1 >>> (Int32.toUInt32 1 &&& Int32.toUInt32 31)).toInt32 &&& 1431655765)) &&& 858993459) + ((Int32.toUInt32 (n1 - ((Int32.toUInt32 n1 >>> (Int32.toUInt32 1 &&& Int32.toUInt32 31)).toInt32 &&& 1431655765)) >>> (Int32.toUInt32 2 &&& Int32.toUInt32 31)).toInt32 &&& 858993459)) >>> (Int32.toUInt32 4 &&& Int32.toUInt32 31)).toInt32) &&& 252645135) >>> (Int32.toUInt32 8 &&& Int32.toUInt32 31)).toInt32) + (Int32.toUInt32 ((((((n1 - ((Int32.toUInt32 n1 >>> (Int32.toUInt32 1 &&& Int32.toUInt32 31)).toInt32 &&& 1431655765)) &&& 858993459) + ((Int32.toUInt32 (n1 - ((Int32.toUInt32 n1 >>> (Int32.toUInt32 1 &&& Int32.toUInt32 31)).toInt32 &&& 1431655765)) >>> (Int32.toUInt32 2 &&& Int32.toUInt32 31)).toInt32 &&& 858993459)) + (Int32.toUInt32 (((n1 - ((Int32.toUInt32 n1 >>> (Int32.toUInt32 1 &&& Int32.toUInt32 31)).toInt32 &&& 1431655765)) &&& 858993459) + ((Int32.toUInt32 (n1 - ((Int32.toUInt32 n1 >>> (Int32.toUInt32 1 &&& Int32.toUInt32 31)).toInt32 &&& 1431655765)) >>> (Int32.toUInt32 2 &&& Int32.toUInt32 31)).toInt32 &&& 858993459)) >>> (Int32.toUInt32 4 &&& Int32.toUInt32 31)).toInt32) &&& 252645135) + (Int32.toUInt32 (((((n1 - ((Int32.toUInt32 n1 >>> (Int32.toUInt32 1 &&& Int32.toUInt32 31)).toInt32 &&& 1431655765)) &&& 858993459) + ((Int32.toUInt32 (n1 - ((Int32.toUInt32 n1 >>> (Int32.toUInt32 1 &&& Int32.toUInt32 31)).toInt32 &&& 1431655765)) >>> (Int32.toUInt32 2 &&& Int32.toUInt32 31)).toInt32 &&& 858993459)) + (Int32.toUInt32 (((n1 - ((Int32.toUInt32 n1 >>> (Int32.toUInt32 1 &&& Int32.toUInt32 31)).toInt32 &&& 1431655765)) &&& 858993459) + ((Int32.toUInt32 (n1 - ((Int32.toUInt32 n1 >>> (Int32.toUInt32 1 &&& Int32.toUInt32 31)).toInt32 &&& 1431655765)) >>> (Int32.toUInt32 2 &&& Int32.toUInt32 31)).toInt32 &&& 858993459)) >>> (Int32.toUInt32 4 &&& Int32.toUInt32 31)).toInt32) &&& 252645135) >>> (Int32.toUInt32 8 &&& Int32.toUInt32 31)).toInt32) >>> (Int32.toUInt32 16 &&& Int32.toUInt32 31)).toInt32) &&& 63)), w) := by
  have e : rv_EV 209 [.int n1] w = rv_GO rc_J6_bitCount_0f7a4 0 [some (.int n1)] [] w := by
    rfl
  rw [e, ← rv_blk_eq [] 43]
  rfl
set_option maxRecDepth 100000 in
set_option maxHeartbeats 4000000 in
theorem ev_J0_length_8abf5 (p : Nat) (w : rv_W) (hp : (decide (1000 ≤ p) && decide (p < 1014)) = true) : rv_EV 210 [.ref p] w = (bif Nat.ble 1000 p && Nat.ble p 1013 then ((rv_len w (1000 + p)).bind fun x1 => ((rv_ri (rv_EV 212 [.ref p] w)).bind fun q2 => some (some (.int (x1 >>> (q2.1 &&& 31))), q2.2))) else none) := by
  have e : rv_EV 210 [.ref p] w = rv_GO rc_J0_length_8abf5 0 [some (.ref p)] [] w := by
    show cond ((decide (1000 ≤ p) && decide (p < 1014)) && true) _ _ = _
    rw [hp]
    rfl
  rw [e, ← rv_blk_eq [] 8]
  rfl
set_option maxRecDepth 100000 in
set_option maxHeartbeats 4000000 in
theorem ev_J0_charAt_5068e (p : Nat) (n1 : Int32) (w : rv_W) (hp : (decide (1000 ≤ p) && decide (p < 1014)) = true) : rv_EV 211 [.ref p, .int n1] w = ((rv_ri (rv_EV 213 [.ref p] w)).bind fun q1 => (bif rv_cnd .eq q1.1 0 then none else (bif Nat.ble 1000 p && Nat.ble p 1013 then ((rv_ri (rv_EV 215 [.ref (1000 + p), .int n1] q1.2)).bind fun q2 => (bif rv_ch q2.1 then some (some (.int q2.1), q2.2) else none)) else none))) := by
  have e : rv_EV 211 [.ref p, .int n1] w = rv_GO rc_J0_charAt_5068e 0 [some (.ref p), some (.int n1)] [] w := by
    show cond ((decide (1000 ≤ p) && decide (p < 1014)) && true) _ _ = _
    rw [hp]
    rfl
  rw [e, ← rv_blk_eq [] 9]
  rfl
set_option maxRecDepth 100000 in
set_option maxHeartbeats 4000000 in
theorem ev_J0_coder_7d493 (p : Nat) (w : rv_W) (hp : (decide (1000 ≤ p) && decide (p < 1014)) = true) : rv_EV 212 [.ref p] w = (bif rv_cnd .eq 1 0 then none else (bif Nat.ble 1000 p && Nat.ble p 1013 then some (some (.int 0), w) else none)) := by
  have e : rv_EV 212 [.ref p] w = rv_GO rc_J0_coder_7d493 0 [some (.ref p)] [] w := by
    show cond ((decide (1000 ≤ p) && decide (p < 1014)) && true) _ _ = _
    rw [hp]
    rfl
  rw [e, ← rv_blk_eq [] 7]
  rfl
set_option maxRecDepth 100000 in
set_option maxHeartbeats 4000000 in
theorem ev_J0_isLatin1_aae02 (p : Nat) (w : rv_W) (hp : (decide (1000 ≤ p) && decide (p < 1014)) = true) : rv_EV 213 [.ref p] w = (bif rv_cnd .eq 1 0 then some (some (.int 0), w) else (bif Nat.ble 1000 p && Nat.ble p 1013 then (bif rv_cnd .ne 0 0 then some (some (.int 0), w) else some (some (.int 1), w)) else none)) := by
  have e : rv_EV 213 [.ref p] w = rv_GO rc_J0_isLatin1_aae02 0 [some (.ref p)] [] w := by
    show cond ((decide (1000 ≤ p) && decide (p < 1014)) && true) _ _ = _
    rw [hp]
    rfl
  rw [e, ← rv_blk_eq [] 9]
  rfl
set_option maxRecDepth 100000 in
set_option maxHeartbeats 4000000 in
theorem ev_J0_checkIndex_df160 (n1 : Int32) (n2 : Int32) (w : rv_W) : rv_EV 214 [.int n1, .int n2] w = ((rv_ri (rv_EV 216 [.int n1, .int n2, .retAddr 0] w)).bind fun q1 => some (none, q1.2)) := by
  have e : rv_EV 214 [.int n1, .int n2] w = rv_GO rc_J0_checkIndex_df160 0 [some (.int n1), some (.int n2)] [] w := by
    rfl
  rw [e, ← rv_blk_eq [] 7]
  rfl
set_option maxRecDepth 100000 in
set_option maxHeartbeats 4000000 in
theorem ev_J1_charAt_3b067 (n1 : Nat) (n2 : Int32) (w : rv_W) : rv_EV 215 [.ref n1, .int n2] w = ((rv_len w n1).bind fun x1 => ((rv_rv (rv_EV 214 [.int n2, .int x1] w)).bind fun q2 => ((rv_ldB q2 n1 n2).bind fun x3 => (bif rv_ch ((x3 &&& 255).toUInt32 % 65536).toInt32 then some (some (.int ((x3 &&& 255).toUInt32 % 65536).toInt32), q2) else none)))) := by
  have e : rv_EV 215 [.ref n1, .int n2] w = rv_GO rc_J1_charAt_3b067 0 [some (.ref n1), some (.int n2)] [] w := by
    rfl
  rw [e, ← rv_blk_eq [] 12]
  rfl
set_option maxRecDepth 100000 in
set_option maxHeartbeats 4000000 in
theorem ev_J3_checkIndex_8e157 (n1 : Int32) (n2 : Int32) (n3 : Nat) (w : rv_W) : rv_EV 216 [.int n1, .int n2, .retAddr n3] w = (bif rv_cnd .lt n1 0 then none else (bif rv_cnd .lt n1 n2 then some (some (.int n1), w) else none)) := by
  have e : rv_EV 216 [.int n1, .int n2, .retAddr n3] w = rv_GO rc_J3_checkIndex_8e157 0 [some (.int n1), some (.int n2), some (.retAddr n3)] [] w := by
    rfl
  rw [e, ← rv_blk_eq [] 8]
  rfl
end
section
set_option maxRecDepth 100000 in
set_option maxHeartbeats 4000000 in
theorem ev_X2_take (p : Nat) (n1 : Nat) (w : rv_W) (hp : (rv_obj w p 1).isSome = true) : rv_EV 9 [.ref p, .ref n1] w = ((rv_ldFR w n1 1 0).bind fun a1 => ((rv_ldFR w p 1 0).bind fun a2 => ((rv_cpy w a1 0 a2 0 10).bind fun w3 => ((rv_ldFR w3 n1 1 1).bind fun a4 => ((rv_ldFR w3 p 1 1).bind fun a5 => ((rv_cpy w3 a4 0 a5 0 40).bind fun w6 => ((rv_ldFR w6 n1 1 2).bind fun a7 => ((rv_ldFR w6 p 1 2).bind fun a8 => ((rv_cpy w6 a7 0 a8 0 8).bind fun w9 => ((rv_ldFR w9 n1 1 3).bind fun a10 => ((rv_ldFR w9 p 1 3).bind fun a11 => ((rv_cpy w9 a10 0 a11 0 8).bind fun w12 => ((rv_ldFR w12 n1 1 4).bind fun a13 => ((rv_ldFR w12 p 1 4).bind fun a14 => ((rv_cpy w12 a13 0 a14 0 8).bind fun w15 => ((rv_ldFR w15 n1 1 5).bind fun a16 => ((rv_ldFR w15 p 1 5).bind fun a17 => ((rv_cpy w15 a16 0 a17 0 8).bind fun w18 => ((rv_ldFR w18 n1 1 6).bind fun a19 => ((rv_ldFR w18 p 1 6).bind fun a20 => ((rv_cpy w18 a19 0 a20 0 10).bind fun w21 => ((rv_ldFI w21 n1 1 7).bind fun x22 => ((rv_stF w21 p 1 7 (.int x22)).bind fun w23 => ((rv_ldFI w23 n1 1 8).bind fun x24 => ((rv_stF w23 p 1 8 (.int x24)).bind fun w25 => ((rv_ldFI w25 n1 1 9).bind fun x26 => ((rv_stF w25 p 1 9 (.int x26)).bind fun w27 => ((rv_ldFI w27 n1 1 10).bind fun x28 => ((rv_stF w27 p 1 10 (.int x28)).bind fun w29 => ((rv_ldFI w29 n1 1 11).bind fun x30 => ((rv_stF w29 p 1 11 (.int x30)).bind fun w31 => some (none, w31)))))))))))))))))))))))))))))))) := by
  have e : rv_EV 9 [.ref p, .ref n1] w = rv_GO rc_X2_take 0 [some (.ref p), some (.ref n1)] [] w := by
    show cond ((rv_obj w p 1).isSome && true) _ _ = _
    rw [hp]
    rfl
  rw [e, ← rv_blk_eq [] 78]
  rfl
set_option maxRecDepth 100000 in
set_option maxHeartbeats 4000000 in
theorem ev_X2_hasBather (p : Nat) (n1 : Int32) (w : rv_W) (hp : (rv_obj w p 1).isSome = true) : rv_EV 10 [.ref p, .int n1] w = (bif rv_cnd .lt n1 0 then some (some (.int 0), w) else ((rv_ldFI w p 1 7).bind fun x1 => (bif rv_cnd .ge n1 x1 then some (some (.int 0), w) else some (some (.int 1), w)))) := by
  have e : rv_EV 10 [.ref p, .int n1] w = rv_GO rc_X2_hasBather 0 [some (.ref p), some (.int n1)] [] w := by
    show cond ((rv_obj w p 1).isSome && true) _ _ = _
    rw [hp]
    rfl
  rw [e, ← rv_blk_eq [] 10]
  rfl
set_option maxRecDepth 100000 in
set_option maxHeartbeats 4000000 in
theorem ev_X2_isFull (p : Nat) (w : rv_W) (hp : (rv_obj w p 1).isSome = true) : rv_EV 11 [.ref p] w = ((rv_ldFI w p 1 7).bind fun x1 => (bif rv_cnd .lt x1 8 then some (some (.int 0), w) else some (some (.int 1), w))) := by
  have e : rv_EV 11 [.ref p] w = rv_GO rc_X2_isFull 0 [some (.ref p)] [] w := by
    show cond ((rv_obj w p 1).isSome && true) _ _ = _
    rw [hp]
    rfl
  rw [e, ← rv_blk_eq [] 8]
  rfl
set_option maxRecDepth 100000 in
set_option maxHeartbeats 4000000 in
theorem ev_X2_addBather (p : Nat) (n1 : Int32) (n2 : Int32) (n3 : Int32) (n4 : Int32) (w : rv_W) (hp : (rv_obj w p 1).isSome = true) : rv_EV 12 [.ref p, .int n1, .int n2, .int n3, .int n4] w = ((rv_ldFI w p 1 7).bind fun x1 => ((rv_ldFR w p 1 2).bind fun a2 => ((rv_stI w a2 x1 n1).bind fun w3 => ((rv_ldFR w3 p 1 3).bind fun a4 => ((rv_stI w3 a4 x1 n2).bind fun w5 => ((rv_ldFR w5 p 1 4).bind fun a6 => ((rv_stI w5 a6 x1 n3).bind fun w7 => ((rv_ldFR w7 p 1 5).bind fun a8 => ((rv_stI w7 a8 x1 n4).bind fun w9 => ((rv_ldFI w9 p 1 7).bind fun x10 => ((rv_stF w9 p 1 7 (.int (x10 + 1))).bind fun w11 => some (some (.int x1), w11)))))))))))) := by
  have e : rv_EV 12 [.ref p, .int n1, .int n2, .int n3, .int n4] w = rv_GO rc_X2_addBather 0 [some (.ref p), some (.int n1), some (.int n2), some (.int n3), some (.int n4), none] [] w := by
    show cond ((rv_obj w p 1).isSome && true) _ _ = _
    rw [hp]
    rfl
  rw [e, ← rv_blk_eq [] 32]
  rfl
set_option maxRecDepth 100000 in
set_option maxHeartbeats 4000000 in
theorem ev_X2_rowOf (p : Nat) (n1 : Int32) (w : rv_W) (hp : (rv_obj w p 1).isSome = true) : rv_EV 13 [.ref p, .int n1] w = (bif rv_eq n1 (Int32.ofInt 0) then ((rv_ldFR w p 1 2).bind fun a4 => some (some (.ref a4), w)) else (bif rv_eq n1 (Int32.ofInt 1) then ((rv_ldFR w p 1 3).bind fun a3 => some (some (.ref a3), w)) else (bif rv_eq n1 (Int32.ofInt 2) then ((rv_ldFR w p 1 4).bind fun a2 => some (some (.ref a2), w)) else ((rv_ldFR w p 1 5).bind fun a1 => some (some (.ref a1), w))))) := by
  have e : rv_EV 13 [.ref p, .int n1] w = rv_GO rc_X2_rowOf 0 [some (.ref p), some (.int n1)] [] w := by
    show cond ((rv_obj w p 1).isSome && true) _ _ = _
    rw [hp]
    rfl
  rw [e, ← rv_blk_eq [] 6]
  rfl
set_option maxRecDepth 100000 in
set_option maxHeartbeats 4000000 in
theorem ev_X2_changePlaces (p : Nat) (n1 : Int32) (n2 : Int32) (w : rv_W) (hp : (rv_obj w p 1).isSome = true) : rv_EV 14 [.ref p, .int n1, .int n2] w = ((rv_ldFR w p 1 3).bind fun a1 => ((rv_ldI w a1 n1).bind fun x2 => ((rv_ldFR w p 1 3).bind fun a3 => ((rv_ldFR w p 1 3).bind fun a4 => ((rv_ldI w a4 n2).bind fun x5 => ((rv_stI w a3 n1 x5).bind fun w6 => ((rv_ldFR w6 p 1 3).bind fun a7 => ((rv_stI w6 a7 n2 x2).bind fun w8 => some (none, w8))))))))) := by
  have e : rv_EV 14 [.ref p, .int n1, .int n2] w = rv_GO rc_X2_changePlaces 0 [some (.ref p), some (.int n1), some (.int n2), none] [] w := by
    show cond ((rv_obj w p 1).isSome && true) _ _ = _
    rw [hp]
    rfl
  rw [e, ← rv_blk_eq [] 20]
  rfl
set_option maxRecDepth 100000 in
set_option maxHeartbeats 4000000 in
theorem ev_X2_scentIn (p : Nat) (n1 : Int32) (n2 : Int32) (w : rv_W) (hp : (rv_obj w p 1).isSome = true) : rv_EV 15 [.ref p, .int n1, .int n2] w = ((rv_ldFR w p 1 1).bind fun a1 => ((rv_ldI w a1 ((n1 * 4) + n2)).bind fun x2 => some (some (.int x2), w))) := by
  have e : rv_EV 15 [.ref p, .int n1, .int n2] w = rv_GO rc_X2_scentIn 0 [some (.ref p), some (.int n1), some (.int n2)] [] w := by
    show cond ((rv_obj w p 1).isSome && true) _ _ = _
    rw [hp]
    rfl
  rw [e, ← rv_blk_eq [] 10]
  rfl
set_option maxRecDepth 100000 in
set_option maxHeartbeats 4000000 in
theorem ev_X2_setScent (p : Nat) (n1 : Int32) (n2 : Int32) (n3 : Int32) (w : rv_W) (hp : (rv_obj w p 1).isSome = true) : rv_EV 16 [.ref p, .int n1, .int n2, .int n3] w = ((rv_ldFR w p 1 1).bind fun a1 => ((rv_stI w a1 ((n1 * 4) + n2) n3).bind fun w2 => some (none, w2))) := by
  have e : rv_EV 16 [.ref p, .int n1, .int n2, .int n3] w = rv_GO rc_X2_setScent 0 [some (.ref p), some (.int n1), some (.int n2), some (.int n3)] [] w := by
    show cond ((rv_obj w p 1).isSome && true) _ _ = _
    rw [hp]
    rfl
  rw [e, ← rv_blk_eq [] 11]
  rfl
set_option maxRecDepth 100000 in
set_option maxHeartbeats 4000000 in
theorem ev_X2_scentsIn (p : Nat) (n1 : Int32) (w : rv_W) (hp : (rv_obj w p 1).isSome = true) : rv_EV 17 [.ref p, .int n1] w = rv_GO rc_X2_scentsIn 4 [some (.ref p), some (.int n1), some (.int 0), some (.int 0)] [] w := by
  have e : rv_EV 17 [.ref p, .int n1] w = rv_GO rc_X2_scentsIn 0 [some (.ref p), some (.int n1), none, none] [] w := by
    show cond ((rv_obj w p 1).isSome && true) _ _ = _
    rw [hp]
    rfl
  rw [e, ← rv_blk_eq [4] 6]
  rfl
set_option maxRecDepth 100000 in
set_option maxHeartbeats 4000000 in
theorem bk_X2_scentsIn_4 (v0 : Nat) (v1 : Int32) (v2 : Int32) (v3 : Int32) (w : rv_W) : rv_GO rc_X2_scentsIn 4 [some (.ref v0), some (.int v1), some (.int v2), some (.int v3)] [] w = (bif rv_cnd .ge v3 4 then some (some (.int v2), w) else ((rv_ri (rv_EV 15 [.ref v0, .int v1, .int v3] w)).bind fun q1 => rv_GO rc_X2_scentsIn 4 [some (.ref v0), some (.int v1), some (.int (v2 + q1.1)), some (.int (v3 + 1))] [] q1.2)) := by
  rw [← rv_blk_eq [4] 14]
  rfl
set_option maxRecDepth 100000 in
set_option maxHeartbeats 4000000 in
theorem ev_X2_pullPlug (p : Nat) (n1 : Int32) (w : rv_W) (hp : (rv_obj w p 1).isSome = true) : rv_EV 18 [.ref p, .int n1] w = ((rv_ldFR w p 1 0).bind fun a1 => ((rv_stI w a1 n1 0).bind fun w2 => rv_GO rc_X2_pullPlug 9 [some (.ref p), some (.int n1), some (.int 0)] [] w2)) := by
  have e : rv_EV 18 [.ref p, .int n1] w = rv_GO rc_X2_pullPlug 0 [some (.ref p), some (.int n1), none] [] w := by
    show cond ((rv_obj w p 1).isSome && true) _ _ = _
    rw [hp]
    rfl
  rw [e, ← rv_blk_eq [9] 9]
  rfl
set_option maxRecDepth 100000 in
set_option maxHeartbeats 4000000 in
theorem bk_X2_pullPlug_9 (v0 : Nat) (v1 : Int32) (v2 : Int32) (w : rv_W) : rv_GO rc_X2_pullPlug 9 [some (.ref v0), some (.int v1), some (.int v2)] [] w = (bif rv_cnd .ge v2 4 then some (none, w) else ((rv_rv (rv_EV 16 [.ref v0, .int v1, .int v2, .int 0] w)).bind fun q1 => rv_GO rc_X2_pullPlug 9 [some (.ref v0), some (.int v1), some (.int (v2 + 1))] [] q1)) := by
  rw [← rv_blk_eq [9] 12]
  rfl
set_option maxRecDepth 100000 in
set_option maxHeartbeats 4000000 in
theorem ev_X2_nextDraw (p : Nat) (w : rv_W) (hp : (rv_obj w p 1).isSome = true) : rv_EV 19 [.ref p] w = ((rv_ldFI w p 1 10).bind fun x1 => ((rv_stF w p 1 10 (.int ((x1 * 1103515245) + 12345))).bind fun w2 => ((rv_ldFI w2 p 1 10).bind fun x3 => some (some (.int (Int32.toUInt32 x3 >>> (Int32.toUInt32 8 &&& Int32.toUInt32 31)).toInt32), w2)))) := by
  have e : rv_EV 19 [.ref p] w = rv_GO rc_X2_nextDraw 0 [some (.ref p)] [] w := by
    show cond ((rv_obj w p 1).isSome && true) _ _ = _
    rw [hp]
    rfl
  rw [e, ← rv_blk_eq [] 14]
  rfl
set_option maxRecDepth 100000 in
set_option maxHeartbeats 4000000 in
theorem ev_X2_passHours (p : Nat) (n1 : Int32) (w : rv_W) (hp : (rv_obj w p 1).isSome = true) : rv_EV 20 [.ref p, .int n1] w = rv_GO rc_X2_passHours 2 [some (.ref p), some (.int n1), some (.int 0)] [] w := by
  have e : rv_EV 20 [.ref p, .int n1] w = rv_GO rc_X2_passHours 0 [some (.ref p), some (.int n1), none] [] w := by
    show cond ((rv_obj w p 1).isSome && true) _ _ = _
    rw [hp]
    rfl
  rw [e, ← rv_blk_eq [2] 4]
  rfl
set_option maxRecDepth 100000 in
set_option maxHeartbeats 4000000 in
theorem bk_X2_passHours_2 (v0 : Nat) (v1 : Int32) (v2 : Int32) (w : rv_W) : rv_GO rc_X2_passHours 2 [some (.ref v0), some (.int v1), some (.int v2)] [] w = (bif rv_cnd .ge v2 v1 then some (none, w) else ((rv_rv (rv_EV 21 [.ref v0] w)).bind fun q1 => rv_GO rc_X2_passHours 2 [some (.ref v0), some (.int v1), some (.int (v2 + 1))] [] q1)) := by
  rw [← rv_blk_eq [2] 9]
  rfl
set_option maxRecDepth 100000 in
set_option maxHeartbeats 4000000 in
theorem ev_X2_passHour (p : Nat) (w : rv_W) (hp : (rv_obj w p 1).isSome = true) : rv_EV 21 [.ref p] w = ((rv_rv (rv_EV 23 [.ref p] w)).bind fun q1 => rv_GO rc_X2_passHour 6 [some (.ref p), some (.int 0)] [] q1) := by
  have e : rv_EV 21 [.ref p] w = rv_GO rc_X2_passHour 0 [some (.ref p), none] [] w := by
    show cond ((rv_obj w p 1).isSome && true) _ _ = _
    rw [hp]
    rfl
  rw [e, ← rv_blk_eq [6, 35] 6]
  rfl
set_option maxRecDepth 100000 in
set_option maxHeartbeats 4000000 in
theorem bk_X2_passHour_6 (v0 : Nat) (v1 : Int32) (w : rv_W) : rv_GO rc_X2_passHour 6 [some (.ref v0), some (.int v1)] [] w = ((rv_ldFI w v0 1 7).bind fun x1 => (bif rv_cnd .ge v1 x1 then rv_GO rc_X2_passHour 35 [some (.ref v0), some (.int 0)] [] w else ((rv_ri (rv_EV 24 [.ref v0, .int v1] w)).bind fun q2 => (bif rv_cnd .eq q2.1 0 then rv_GO rc_X2_passHour 6 [some (.ref v0), some (.int (v1 + 1))] [] q2.2 else ((rv_rv (rv_EV 25 [.ref v0, .int v1] q2.2)).bind fun q3 => rv_GO rc_X2_passHour 6 [some (.ref v0), some (.int (v1 + 1))] [] q3))))) := by
  rw [← rv_blk_eq [6, 35] 15]
  rfl
set_option maxRecDepth 100000 in
set_option maxHeartbeats 4000000 in
theorem bk_X2_passHour_35 (v0 : Nat) (v1 : Int32) (w : rv_W) : rv_GO rc_X2_passHour 35 [some (.ref v0), some (.int v1)] [] w = ((rv_ldFI w v0 1 7).bind fun x1 => (bif rv_cnd .ge v1 x1 then ((rv_ldFI w v0 1 9).bind fun x2 => ((rv_stF w v0 1 9 (.int (rv_min (x2 + 1) 99999))).bind fun w3 => some (none, w3))) else ((rv_ri (rv_EV 24 [.ref v0, .int v1] w)).bind fun q4 => (bif rv_cnd .eq q4.1 0 then rv_GO rc_X2_passHour 35 [some (.ref v0), some (.int (v1 + 1))] [] q4.2 else ((rv_ldFR q4.2 v0 1 5).bind fun a5 => ((rv_ldI q4.2 a5 v1).bind fun x6 => ((rv_ri (rv_EV 27 [.ref v0, .int v1] q4.2)).bind fun q7 => ((rv_stI q7.2 a5 v1 (x6 ||| q7.1)).bind fun w8 => rv_GO rc_X2_passHour 35 [some (.ref v0), some (.int (v1 + 1))] [] w8)))))))) := by
  rw [← rv_blk_eq [6, 35] 22]
  rfl
set_option maxRecDepth 100000 in
set_option maxHeartbeats 4000000 in
theorem ev_X2_stepFurther (n1 : Int32) (w : rv_W) : rv_EV 22 [.int n1] w = (bif rv_eq 4 0 then none else some (some (.int ((n1 * 3) / 4)), w)) := by
  have e : rv_EV 22 [.int n1] w = rv_GO rc_X2_stepFurther 0 [some (.int n1)] [] w := by
    rfl
  rw [e, ← rv_blk_eq [] 7]
  rfl
set_option maxRecDepth 100000 in
set_option maxHeartbeats 4000000 in
theorem ev_X2_letWaterDown (p : Nat) (w : rv_W) (hp : (rv_obj w p 1).isSome = true) : rv_EV 23 [.ref p] w = rv_GO rc_X2_letWaterDown 3 [some (.ref p), some (.int 9)] [] w := by
  have e : rv_EV 23 [.ref p] w = rv_GO rc_X2_letWaterDown 0 [some (.ref p), none] [] w := by
    show cond ((rv_obj w p 1).isSome && true) _ _ = _
    rw [hp]
    rfl
  rw [e, ← rv_blk_eq [3, 36] 4]
  rfl
set_option maxRecDepth 100000 in
set_option maxHeartbeats 4000000 in
theorem bk_X2_letWaterDown_3 (v0 : Nat) (v1 : Int32) (w : rv_W) : rv_GO rc_X2_letWaterDown 3 [some (.ref v0), some (.int v1)] [] w = (bif rv_cnd .le v1 0 then rv_GO rc_X2_letWaterDown 36 [some (.ref v0), some (.int 39)] [] w else ((rv_ldFR w v0 1 0).bind fun a1 => ((rv_ldFR w v0 1 0).bind fun a2 => ((rv_ldI w a2 (v1 - 1)).bind fun x3 => ((rv_stI w a1 v1 (rv_max (x3 - 4) 0)).bind fun w4 => rv_GO rc_X2_letWaterDown 3 [some (.ref v0), some (.int (v1 + (-1)))] [] w4))))) := by
  rw [← rv_blk_eq [3, 36] 20]
  rfl
set_option maxRecDepth 100000 in
set_option maxHeartbeats 4000000 in
theorem bk_X2_letWaterDown_36 (v0 : Nat) (v1 : Int32) (w : rv_W) : rv_GO rc_X2_letWaterDown 36 [some (.ref v0), some (.int v1)] [] w = (bif rv_cnd .lt v1 4 then ((rv_rv (rv_EV 18 [.ref v0, .int 0] w)).bind fun q1 => ((rv_ldFR q1 v0 1 0).bind fun a2 => ((rv_ldFI q1 v0 1 8).bind fun x3 => ((rv_stI q1 a2 0 x3).bind fun w4 => some (none, w4))))) else ((rv_ldFR w v0 1 1).bind fun a5 => ((rv_ldFR w v0 1 1).bind fun a6 => ((rv_ldI w a6 (v1 - 4)).bind fun x7 => ((rv_ri (rv_EV 22 [.int x7] w)).bind fun q8 => ((rv_stI q8.2 a5 v1 q8.1).bind fun w9 => rv_GO rc_X2_letWaterDown 36 [some (.ref v0), some (.int (v1 + (-1)))] [] w9)))))) := by
  rw [← rv_blk_eq [3, 36] 18]
  rfl
set_option maxRecDepth 100000 in
set_option maxHeartbeats 4000000 in
theorem ev_X2_isHere (p : Nat) (n1 : Int32) (w : rv_W) (hp : (rv_obj w p 1).isSome = true) : rv_EV 24 [.ref p, .int n1] w = ((rv_ldFI w p 1 11).bind fun x1 => (bif rv_cnd .ne ((x1 >>> (n1 &&& 31)) &&& 1) 0 then some (some (.int 0), w) else some (some (.int 1), w))) := by
  have e : rv_EV 24 [.ref p, .int n1] w = rv_GO rc_X2_isHere 0 [some (.ref p), some (.int n1)] [] w := by
    show cond ((rv_obj w p 1).isSome && true) _ _ = _
    rw [hp]
    rfl
  rw [e, ← rv_blk_eq [] 11]
  rfl
set_option maxRecDepth 100000 in
set_option maxHeartbeats 4000000 in
theorem ev_X2_bathe (p : Nat) (n1 : Int32) (w : rv_W) (hp : (rv_obj w p 1).isSome = true) : rv_EV 25 [.ref p, .int n1] w = ((rv_ldFR w p 1 3).bind fun a1 => ((rv_ldI w a1 n1).bind fun x2 => ((rv_ldFR w p 1 4).bind fun a3 => ((rv_ldI w a3 n1).bind fun x4 => ((rv_ldFR w p 1 0).bind fun a5 => ((rv_ldFR w p 1 0).bind fun a6 => ((rv_ldI w a6 x2).bind fun x7 => ((rv_ldFR w p 1 2).bind fun a8 => ((rv_ldI w a8 n1).bind fun x9 => ((rv_ri (rv_EV 3 [.int x9] w)).bind fun q10 => ((rv_stI q10.2 a5 x2 (rv_max (x7 - q10.1) 0)).bind fun w11 => ((rv_ri (rv_EV 15 [.ref p, .int x2, .int x4] w11)).bind fun q12 => ((rv_ri (rv_EV 26 [.ref p, .int n1] q12.2)).bind fun q13 => ((rv_rv (rv_EV 16 [.ref p, .int x2, .int x4, .int (rv_min (q12.1 + q13.1) 9999)] q13.2)).bind fun q14 => some (none, q14))))))))))))))) := by
  have e : rv_EV 25 [.ref p, .int n1] w = rv_GO rc_X2_bathe 0 [some (.ref p), some (.int n1), none, none] [] w := by
    show cond ((rv_obj w p 1).isSome && true) _ _ = _
    rw [hp]
    rfl
  rw [e, ← rv_blk_eq [] 42]
  rfl
set_option maxRecDepth 100000 in
set_option maxHeartbeats 4000000 in
theorem ev_X2_addsOf (p : Nat) (n1 : Int32) (w : rv_W) (hp : (rv_obj w p 1).isSome = true) : rv_EV 26 [.ref p, .int n1] w = ((rv_ldFR w p 1 3).bind fun a1 => ((rv_ldI w a1 n1).bind fun x2 => ((rv_ldFR w p 1 2).bind fun a3 => ((rv_ldI w a3 n1).bind fun x4 => ((rv_ldFR w p 1 0).bind fun a5 => ((rv_ldI w a5 x2).bind fun x6 => ((rv_ldFR w p 1 4).bind fun a7 => ((rv_ldI w a7 n1).bind fun x8 => ((rv_ri (rv_EV 15 [.ref p, .int x2, .int x8] w)).bind fun q9 => ((rv_ldFR q9.2 p 1 5).bind fun a10 => ((rv_ldI q9.2 a10 n1).bind fun x11 => ((rv_ri (rv_EV 2 [.int x4, .int x6, .int q9.1, .int x11] q9.2)).bind fun q12 => some (some (.int q12.1), q12.2))))))))))))) := by
  have e : rv_EV 26 [.ref p, .int n1] w = rv_GO rc_X2_addsOf 0 [some (.ref p), some (.int n1), none] [] w := by
    show cond ((rv_obj w p 1).isSome && true) _ _ = _
    rw [hp]
    rfl
  rw [e, ← rv_blk_eq [] 27]
  rfl
set_option maxRecDepth 100000 in
set_option maxHeartbeats 4000000 in
theorem ev_X2_smelledBy (p : Nat) (n1 : Int32) (w : rv_W) (hp : (rv_obj w p 1).isSome = true) : rv_EV 27 [.ref p, .int n1] w = ((rv_ldFR w p 1 3).bind fun a1 => ((rv_ldI w a1 n1).bind fun x2 => ((rv_ldFR w p 1 2).bind fun a3 => ((rv_ldI w a3 n1).bind fun x4 => ((rv_ri (rv_EV 4 [.int x4] w)).bind fun q5 => ((rv_ri (rv_EV 17 [.ref p, .int x2] q5.2)).bind fun q6 => rv_GO rc_X2_smelledBy 30 [some (.ref p), some (.int n1), some (.int x2), some (.int q5.1), some (.int q6.1), some (.int 0), some (.int 0), none, none] [] q6.2)))))) := by
  have e : rv_EV 27 [.ref p, .int n1] w = rv_GO rc_X2_smelledBy 0 [some (.ref p), some (.int n1), none, none, none, none, none, none, none] [] w := by
    show cond ((rv_obj w p 1).isSome && true) _ _ = _
    rw [hp]
    rfl
  rw [e, ← rv_blk_eq [30] 21]
  rfl
set_option maxRecDepth 100000 in
set_option maxHeartbeats 4000000 in
theorem bk_X2_smelledBy_30 (v0 : Nat) (v1 : Int32) (v2 : Int32) (v3 : Int32) (v4 : Int32) (v5 : Int32) (v6 : Int32) (w : rv_W) : rv_GO rc_X2_smelledBy 30 [some (.ref v0), some (.int v1), some (.int v2), some (.int v3), some (.int v4), some (.int v5), some (.int v6), none, none] [] w = (bif rv_cnd .ge v6 4 then some (some (.int v5), w) else ((rv_ri (rv_EV 15 [.ref v0, .int v2, .int v6] w)).bind fun q1 => (bif rv_eq 8 0 then none else ((rv_ldFR q1.2 v0 1 4).bind fun a2 => ((rv_ldI q1.2 a2 v1).bind fun x3 => (bif rv_cnd .eq v6 x3 then rv_GO rc_X2_smelledBy 30 [some (.ref v0), some (.int v1), some (.int v2), some (.int v3), some (.int v4), some (.int v5), some (.int (v6 + 1)), none, none] [] q1.2 else (bif rv_cnd .lt q1.1 (v3 + ((v4 - q1.1) / 8)) then rv_GO rc_X2_smelledBy 30 [some (.ref v0), some (.int v1), some (.int v2), some (.int v3), some (.int v4), some (.int v5), some (.int (v6 + 1)), none, none] [] q1.2 else rv_GO rc_X2_smelledBy 30 [some (.ref v0), some (.int v1), some (.int v2), some (.int v3), some (.int v4), some (.int (v5 ||| (1 <<< (v6 &&& 31)))), some (.int (v6 + 1)), none, none] [] q1.2))))))) := by
  rw [← rv_blk_eq [30] 35]
  rfl
set_option maxRecDepth 100000 in
set_option maxHeartbeats 4000000 in
theorem ev_X2_whoIsIn (p : Nat) (n1 : Int32) (w : rv_W) (hp : (rv_obj w p 1).isSome = true) : rv_EV 28 [.ref p, .int n1] w = rv_GO rc_X2_whoIsIn 4 [some (.ref p), some (.int n1), some (.int 0), some (.int 0)] [] w := by
  have e : rv_EV 28 [.ref p, .int n1] w = rv_GO rc_X2_whoIsIn 0 [some (.ref p), some (.int n1), none, none] [] w := by
    show cond ((rv_obj w p 1).isSome && true) _ _ = _
    rw [hp]
    rfl
  rw [e, ← rv_blk_eq [4] 6]
  rfl
set_option maxRecDepth 100000 in
set_option maxHeartbeats 4000000 in
theorem bk_X2_whoIsIn_4 (v0 : Nat) (v1 : Int32) (v2 : Int32) (v3 : Int32) (w : rv_W) : rv_GO rc_X2_whoIsIn 4 [some (.ref v0), some (.int v1), some (.int v2), some (.int v3)] [] w = ((rv_ldFI w v0 1 7).bind fun x1 => (bif rv_cnd .ge v3 x1 then some (some (.int v2), w) else ((rv_ldFR w v0 1 3).bind fun a2 => ((rv_ldI w a2 v3).bind fun x3 => (bif rv_cnd .ne x3 v1 then rv_GO rc_X2_whoIsIn 4 [some (.ref v0), some (.int v1), some (.int v2), some (.int (v3 + 1))] [] w else rv_GO rc_X2_whoIsIn 4 [some (.ref v0), some (.int v1), some (.int (v2 ||| (1 <<< (v3 &&& 31)))), some (.int (v3 + 1))] [] w))))) := by
  rw [← rv_blk_eq [4] 20]
  rfl
set_option maxRecDepth 100000 in
set_option maxHeartbeats 4000000 in
theorem ev_X2_whoKnow (p : Nat) (n1 : Int32) (w : rv_W) (hp : (rv_obj w p 1).isSome = true) : rv_EV 29 [.ref p, .int n1] w = rv_GO rc_X2_whoKnow 4 [some (.ref p), some (.int n1), some (.int 0), some (.int 0)] [] w := by
  have e : rv_EV 29 [.ref p, .int n1] w = rv_GO rc_X2_whoKnow 0 [some (.ref p), some (.int n1), none, none] [] w := by
    show cond ((rv_obj w p 1).isSome && true) _ _ = _
    rw [hp]
    rfl
  rw [e, ← rv_blk_eq [4] 6]
  rfl
set_option maxRecDepth 100000 in
set_option maxHeartbeats 4000000 in
theorem bk_X2_whoKnow_4 (v0 : Nat) (v1 : Int32) (v2 : Int32) (v3 : Int32) (w : rv_W) : rv_GO rc_X2_whoKnow 4 [some (.ref v0), some (.int v1), some (.int v2), some (.int v3)] [] w = ((rv_ldFI w v0 1 7).bind fun x1 => (bif rv_cnd .ge v3 x1 then some (some (.int v2), w) else ((rv_ldFR w v0 1 5).bind fun a2 => ((rv_ldI w a2 v3).bind fun x3 => rv_GO rc_X2_whoKnow 4 [some (.ref v0), some (.int v1), some (.int (v2 ||| (((x3 >>> (v1 &&& 31)) &&& 1) <<< (v3 &&& 31)))), some (.int (v3 + 1))] [] w)))) := by
  rw [← rv_blk_eq [4] 21]
  rfl
set_option maxRecDepth 100000 in
set_option maxHeartbeats 4000000 in
theorem ev_X2_whoKnowAll (p : Nat) (w : rv_W) (hp : (rv_obj w p 1).isSome = true) : rv_EV 30 [.ref p] w = rv_GO rc_X2_whoKnowAll 4 [some (.ref p), some (.int 0), some (.int 0)] [] w := by
  have e : rv_EV 30 [.ref p] w = rv_GO rc_X2_whoKnowAll 0 [some (.ref p), none, none] [] w := by
    show cond ((rv_obj w p 1).isSome && true) _ _ = _
    rw [hp]
    rfl
  rw [e, ← rv_blk_eq [4] 6]
  rfl
set_option maxRecDepth 100000 in
set_option maxHeartbeats 4000000 in
theorem bk_X2_whoKnowAll_4 (v0 : Nat) (v1 : Int32) (v2 : Int32) (w : rv_W) : rv_GO rc_X2_whoKnowAll 4 [some (.ref v0), some (.int v1), some (.int v2)] [] w = ((rv_ldFI w v0 1 7).bind fun x1 => (bif rv_cnd .ge v2 x1 then some (some (.int v1), w) else ((rv_ldFR w v0 1 5).bind fun a2 => ((rv_ldI w a2 v2).bind fun x3 => ((rv_ldFR w v0 1 4).bind fun a4 => ((rv_ldI w a4 v2).bind fun x5 => (bif rv_cnd .ne (x3 ||| (1 <<< (x5 &&& 31))) 15 then rv_GO rc_X2_whoKnowAll 4 [some (.ref v0), some (.int v1), some (.int (v2 + 1))] [] w else rv_GO rc_X2_whoKnowAll 4 [some (.ref v0), some (.int (v1 ||| (1 <<< (v2 &&& 31)))), some (.int (v2 + 1))] [] w))))))) := by
  rw [← rv_blk_eq [4] 27]
  rfl
set_option maxRecDepth 100000 in
set_option maxHeartbeats 4000000 in
theorem ev_X2_whoAreUnknown (p : Nat) (w : rv_W) (hp : (rv_obj w p 1).isSome = true) : rv_EV 31 [.ref p] w = rv_GO rc_X2_whoAreUnknown 4 [some (.ref p), some (.int 0), some (.int 0), none] [] w := by
  have e : rv_EV 31 [.ref p] w = rv_GO rc_X2_whoAreUnknown 0 [some (.ref p), none, none, none] [] w := by
    show cond ((rv_obj w p 1).isSome && true) _ _ = _
    rw [hp]
    rfl
  rw [e, ← rv_blk_eq [4] 6]
  rfl
set_option maxRecDepth 100000 in
set_option maxHeartbeats 4000000 in
theorem bk_X2_whoAreUnknown_4 (v0 : Nat) (v1 : Int32) (v2 : Int32) (w : rv_W) : rv_GO rc_X2_whoAreUnknown 4 [some (.ref v0), some (.int v1), some (.int v2), none] [] w = ((rv_ldFI w v0 1 7).bind fun x1 => (bif rv_cnd .ge v2 x1 then some (some (.int v1), w) else ((rv_ldFR w v0 1 4).bind fun a2 => ((rv_ldI w a2 v2).bind fun x3 => ((rv_ri (rv_EV 29 [.ref v0, .int x3] w)).bind fun q4 => (bif rv_cnd .ne (q4.1 &&& ((1 <<< (v2 &&& 31)) ^^^ (-1))) 0 then rv_GO rc_X2_whoAreUnknown 4 [some (.ref v0), some (.int v1), some (.int (v2 + 1)), none] [] q4.2 else rv_GO rc_X2_whoAreUnknown 4 [some (.ref v0), some (.int (v1 ||| (1 <<< (v2 &&& 31)))), some (.int (v2 + 1)), none] [] q4.2)))))) := by
  rw [← rv_blk_eq [4] 27]
  rfl
set_option maxRecDepth 100000 in
set_option maxHeartbeats 4000000 in
theorem ev_X2_knownPairs (p : Nat) (w : rv_W) (hp : (rv_obj w p 1).isSome = true) : rv_EV 32 [.ref p] w = rv_GO rc_X2_knownPairs 4 [some (.ref p), some (.int 0), some (.int 0)] [] w := by
  have e : rv_EV 32 [.ref p] w = rv_GO rc_X2_knownPairs 0 [some (.ref p), none, none] [] w := by
    show cond ((rv_obj w p 1).isSome && true) _ _ = _
    rw [hp]
    rfl
  rw [e, ← rv_blk_eq [4] 6]
  rfl
set_option maxRecDepth 100000 in
set_option maxHeartbeats 4000000 in
theorem bk_X2_knownPairs_4 (v0 : Nat) (v1 : Int32) (v2 : Int32) (w : rv_W) : rv_GO rc_X2_knownPairs 4 [some (.ref v0), some (.int v1), some (.int v2)] [] w = ((rv_ldFI w v0 1 7).bind fun x1 => (bif rv_cnd .ge v2 x1 then some (some (.int v1), w) else ((rv_ldFR w v0 1 5).bind fun a2 => ((rv_ldI w a2 v2).bind fun x3 => ((rv_ri (rv_EV 209 [.int x3] w)).bind fun q4 => rv_GO rc_X2_knownPairs 4 [some (.ref v0), some (.int (v1 + q4.1)), some (.int (v2 + 1))] [] q4.2))))) := by
  rw [← rv_blk_eq [4] 16]
  rfl
set_option maxRecDepth 100000 in
set_option maxHeartbeats 4000000 in
theorem ev_X2_tubsBelow (p : Nat) (n1 : Int32) (w : rv_W) (hp : (rv_obj w p 1).isSome = true) : rv_EV 33 [.ref p, .int n1] w = rv_GO rc_X2_tubsBelow 4 [some (.ref p), some (.int n1), some (.int 0), some (.int 0)] [] w := by
  have e : rv_EV 33 [.ref p, .int n1] w = rv_GO rc_X2_tubsBelow 0 [some (.ref p), some (.int n1), none, none] [] w := by
    show cond ((rv_obj w p 1).isSome && true) _ _ = _
    rw [hp]
    rfl
  rw [e, ← rv_blk_eq [4] 6]
  rfl
set_option maxRecDepth 100000 in
set_option maxHeartbeats 4000000 in
theorem bk_X2_tubsBelow_4 (v0 : Nat) (v1 : Int32) (v2 : Int32) (v3 : Int32) (w : rv_W) : rv_GO rc_X2_tubsBelow 4 [some (.ref v0), some (.int v1), some (.int v2), some (.int v3)] [] w = (bif rv_cnd .ge v3 10 then some (some (.int v2), w) else ((rv_ldFR w v0 1 0).bind fun a1 => ((rv_ldI w a1 v3).bind fun x2 => (bif rv_cnd .ge x2 v1 then rv_GO rc_X2_tubsBelow 4 [some (.ref v0), some (.int v1), some (.int v2), some (.int (v3 + 1))] [] w else rv_GO rc_X2_tubsBelow 4 [some (.ref v0), some (.int v1), some (.int (v2 ||| (1 <<< (v3 &&& 31)))), some (.int (v3 + 1))] [] w)))) := by
  rw [← rv_blk_eq [4] 19]
  rfl
set_option maxRecDepth 100000 in
set_option maxHeartbeats 4000000 in
theorem ev_X2_emptyTubs (p : Nat) (w : rv_W) (hp : (rv_obj w p 1).isSome = true) : rv_EV 34 [.ref p] w = rv_GO rc_X2_emptyTubs 4 [some (.ref p), some (.int 0), some (.int 0)] [] w := by
  have e : rv_EV 34 [.ref p] w = rv_GO rc_X2_emptyTubs 0 [some (.ref p), none, none] [] w := by
    show cond ((rv_obj w p 1).isSome && true) _ _ = _
    rw [hp]
    rfl
  rw [e, ← rv_blk_eq [4] 6]
  rfl
set_option maxRecDepth 100000 in
set_option maxHeartbeats 4000000 in
theorem bk_X2_emptyTubs_4 (v0 : Nat) (v1 : Int32) (v2 : Int32) (w : rv_W) : rv_GO rc_X2_emptyTubs 4 [some (.ref v0), some (.int v1), some (.int v2)] [] w = (bif rv_cnd .ge v2 10 then some (some (.int v1), w) else ((rv_ri (rv_EV 28 [.ref v0, .int v2] w)).bind fun q1 => (bif rv_cnd .ne q1.1 0 then rv_GO rc_X2_emptyTubs 4 [some (.ref v0), some (.int v1), some (.int (v2 + 1))] [] q1.2 else rv_GO rc_X2_emptyTubs 4 [some (.ref v0), some (.int (v1 + 1)), some (.int (v2 + 1))] [] q1.2))) := by
  rw [← rv_blk_eq [4] 12]
  rfl
set_option maxRecDepth 100000 in
set_option maxHeartbeats 4000000 in
theorem ev_X2_allWarmth (p : Nat) (w : rv_W) (hp : (rv_obj w p 1).isSome = true) : rv_EV 35 [.ref p] w = ((rv_ldFR w p 1 0).bind fun a1 => ((rv_len w a1).bind fun x2 => rv_GO rc_X2_allWarmth 13 [none, some (.int 0), some (.ref a1), some (.int x2), some (.int 0), none] [] w)) := by
  have e : rv_EV 35 [.ref p] w = rv_GO rc_X2_allWarmth 0 [some (.ref p), none, none, none, none, none] [] w := by
    show cond ((rv_obj w p 1).isSome && true) _ _ = _
    rw [hp]
    rfl
  rw [e, ← rv_blk_eq [13] 12]
  rfl
set_option maxRecDepth 100000 in
set_option maxHeartbeats 4000000 in
theorem bk_X2_allWarmth_13 (v1 : Int32) (v2 : Nat) (v3 : Int32) (v4 : Int32) (w : rv_W) : rv_GO rc_X2_allWarmth 13 [none, some (.int v1), some (.ref v2), some (.int v3), some (.int v4), none] [] w = (bif rv_cnd .ge v4 v3 then some (some (.int v1), w) else ((rv_ldI w v2 v4).bind fun x1 => rv_GO rc_X2_allWarmth 13 [none, some (.int (v1 + x1)), some (.ref v2), some (.int v3), some (.int (v4 + 1)), none] [] w)) := by
  rw [← rv_blk_eq [13] 15]
  rfl
set_option maxRecDepth 100000 in
set_option maxHeartbeats 4000000 in
theorem ev_X2_allScents (p : Nat) (w : rv_W) (hp : (rv_obj w p 1).isSome = true) : rv_EV 36 [.ref p] w = ((rv_ldFR w p 1 1).bind fun a1 => ((rv_len w a1).bind fun x2 => rv_GO rc_X2_allScents 13 [none, some (.int 0), some (.ref a1), some (.int x2), some (.int 0), none] [] w)) := by
  have e : rv_EV 36 [.ref p] w = rv_GO rc_X2_allScents 0 [some (.ref p), none, none, none, none, none] [] w := by
    show cond ((rv_obj w p 1).isSome && true) _ _ = _
    rw [hp]
    rfl
  rw [e, ← rv_blk_eq [13] 12]
  rfl
set_option maxRecDepth 100000 in
set_option maxHeartbeats 4000000 in
theorem bk_X2_allScents_13 (v1 : Int32) (v2 : Nat) (v3 : Int32) (v4 : Int32) (w : rv_W) : rv_GO rc_X2_allScents 13 [none, some (.int v1), some (.ref v2), some (.int v3), some (.int v4), none] [] w = (bif rv_cnd .ge v4 v3 then some (some (.int v1), w) else ((rv_ldI w v2 v4).bind fun x1 => rv_GO rc_X2_allScents 13 [none, some (.int (v1 + x1)), some (.ref v2), some (.int v3), some (.int (v4 + 1)), none] [] w)) := by
  rw [← rv_blk_eq [13] 15]
  rfl
set_option maxRecDepth 100000 in
set_option maxHeartbeats 4000000 in
theorem ev_X2_heldSpots (p : Nat) (w : rv_W) (hp : (rv_obj w p 1).isSome = true) : rv_EV 37 [.ref p] w = ((rv_ldFR w p 1 6).bind fun a1 => ((rv_len w a1).bind fun x2 => rv_GO rc_X2_heldSpots 13 [none, some (.int 0), some (.ref a1), some (.int x2), some (.int 0), none] [] w)) := by
  have e : rv_EV 37 [.ref p] w = rv_GO rc_X2_heldSpots 0 [some (.ref p), none, none, none, none, none] [] w := by
    show cond ((rv_obj w p 1).isSome && true) _ _ = _
    rw [hp]
    rfl
  rw [e, ← rv_blk_eq [13] 12]
  rfl
set_option maxRecDepth 100000 in
set_option maxHeartbeats 4000000 in
theorem bk_X2_heldSpots_13 (v1 : Int32) (v2 : Nat) (v3 : Int32) (v4 : Int32) (w : rv_W) : rv_GO rc_X2_heldSpots 13 [none, some (.int v1), some (.ref v2), some (.int v3), some (.int v4), none] [] w = (bif rv_cnd .ge v4 v3 then some (some (.int v1), w) else ((rv_ldI w v2 v4).bind fun x1 => (bif rv_cnd .eq x1 (-1) then rv_GO rc_X2_heldSpots 13 [none, some (.int v1), some (.ref v2), some (.int v3), some (.int (v4 + 1)), none] [] w else rv_GO rc_X2_heldSpots 13 [none, some (.int (v1 + 1)), some (.ref v2), some (.int v3), some (.int (v4 + 1)), none] [] w))) := by
  rw [← rv_blk_eq [13] 15]
  rfl
end
section
set_option maxRecDepth 100000 in
set_option maxHeartbeats 4000000 in
theorem ev_X3_readText (p : Nat) (n1 : Nat) (n2 : Int32) (n3 : Nat) (w : rv_W) (hp : (rv_obj w p 2).isSome = true) : rv_EV 38 [.ref p, .ref n1, .int n2, .ref n3] w = ((rv_stF w p 2 0 (.ref n1)).bind fun w1 => ((rv_len w1 n1).bind fun x2 => ((rv_stF w1 p 2 1 (.int (rv_min n2 x2))).bind fun w3 => ((rv_stF w3 p 2 4 (.int 0)).bind fun w4 => ((rv_rv (rv_EV 47 [.ref p] w4)).bind fun q5 => rv_GO rc_X3_readText 27 [some (.ref p), none, none, some (.ref n3), some (.int 1)] [] q5))))) := by
  have e : rv_EV 38 [.ref p, .ref n1, .int n2, .ref n3] w = rv_GO rc_X3_readText 0 [some (.ref p), some (.ref n1), some (.int n2), some (.ref n3), none] [] w := by
    show cond ((rv_obj w p 2).isSome && true) _ _ = _
    rw [hp]
    rfl
  rw [e, ← rv_blk_eq [27] 18]
  rfl
set_option maxRecDepth 100000 in
set_option maxHeartbeats 4000000 in
theorem bk_X3_readText_27 (v0 : Nat) (v3 : Nat) (v4 : Int32) (w : rv_W) : rv_GO rc_X3_readText 27 [some (.ref v0), none, none, some (.ref v3), some (.int v4)] [] w = ((rv_ldFI w v0 2 1).bind fun x1 => (bif rv_cnd .gt v4 x1 then ((rv_ldFI w v0 2 3).bind fun x2 => some (some (.int ((-1) - x2)), w)) else ((rv_ri (rv_EV 39 [.ref v0, .ref v3] w)).bind fun q3 => (bif rv_cnd .ne q3.1 0 then ((rv_ldFI q3.2 v0 2 2).bind fun x4 => (bif rv_cnd .ne x4 0 then ((rv_ldFI q3.2 v0 2 2).bind fun x5 => (bif rv_cnd .eq x5 3 then ((rv_rv (rv_EV 47 [.ref v0] q3.2)).bind fun q6 => rv_GO rc_X3_readText 27 [some (.ref v0), none, none, some (.ref v3), some (.int (v4 + 1))] [] q6) else ((rv_ldFI q3.2 v0 2 3).bind fun x7 => some (some (.int ((-1) - x7)), q3.2)))) else some (some (.int v4), q3.2))) else ((rv_ldFI q3.2 v0 2 3).bind fun x8 => some (some (.int ((-1) - x8)), q3.2)))))) := by
  rw [← rv_blk_eq [27] 22]
  rfl
set_option maxRecDepth 100000 in
set_option maxHeartbeats 4000000 in
theorem ev_X3_readItem (p : Nat) (n1 : Nat) (w : rv_W) (hp : (rv_obj w p 2).isSome = true) : rv_EV 39 [.ref p, .ref n1] w = ((rv_ri (rv_EV 42 [.ref p] w)).bind fun q1 => (bif rv_cnd .lt q1.1 0 then ((rv_ri (rv_EV 45 [.ref p, .ref 1010] q1.2)).bind fun q2 => (bif rv_cnd .eq q2.1 0 then ((rv_ri (rv_EV 45 [.ref p, .ref 1012] q2.2)).bind fun q3 => (bif rv_cnd .eq q3.1 0 then ((rv_ri (rv_EV 45 [.ref p, .ref 1013] q3.2)).bind fun q4 => (bif rv_cnd .eq q4.1 0 then some (some (.int 0), q4.2) else ((rv_ri (rv_EV 46 [.ref p, .int 9] q4.2)).bind fun q5 => (bif rv_cnd .lt q5.1 0 then rv_GO rc_X3_readItem 91 [none, none, none, some (.int q5.1)] [] q5.2 else ((rv_rv (rv_EV 18 [.ref n1, .int q5.1] q5.2)).bind fun q6 => rv_GO rc_X3_readItem 91 [none, none, none, some (.int q5.1)] [] q6))))) else ((rv_ri (rv_EV 46 [.ref p, .int 99] q3.2)).bind fun q7 => (bif rv_cnd .lt q7.1 0 then rv_GO rc_X3_readItem 56 [none, none, none, some (.int q7.1)] [] q7.2 else ((rv_stF q7.2 n1 1 8 (.int q7.1)).bind fun w8 => rv_GO rc_X3_readItem 56 [none, none, none, some (.int q7.1)] [] w8))))) else ((rv_ri (rv_EV 41 [.ref p, .ref n1] q2.2)).bind fun q9 => (bif rv_bz q9.1 then some (some (.int q9.1), q9.2) else none)))) else ((rv_ri (rv_EV 40 [.ref p, .ref n1, .int q1.1] q1.2)).bind fun q10 => (bif rv_bz q10.1 then some (some (.int q10.1), q10.2) else none)))) := by
  have e : rv_EV 39 [.ref p, .ref n1] w = rv_GO rc_X3_readItem 0 [some (.ref p), some (.ref n1), none, none] [] w := by
    show cond ((rv_obj w p 2).isSome && true) _ _ = _
    rw [hp]
    rfl
  rw [e, ← rv_blk_eq [56, 91] 28]
  rfl
set_option maxRecDepth 100000 in
set_option maxHeartbeats 4000000 in
theorem bk_X3_readItem_56 (v3 : Int32) (w : rv_W) : rv_GO rc_X3_readItem 56 [none, none, none, some (.int v3)] [] w = (bif rv_cnd .lt v3 0 then some (some (.int 0), w) else some (some (.int 1), w)) := by
  rw [← rv_blk_eq [56, 91] 6]
  rfl
set_option maxRecDepth 100000 in
set_option maxHeartbeats 4000000 in
theorem bk_X3_readItem_91 (v3 : Int32) (w : rv_W) : rv_GO rc_X3_readItem 91 [none, none, none, some (.int v3)] [] w = (bif rv_cnd .lt v3 0 then some (some (.int 0), w) else some (some (.int 1), w)) := by
  rw [← rv_blk_eq [56, 91] 6]
  rfl
set_option maxRecDepth 100000 in
set_option maxHeartbeats 4000000 in
theorem ev_X3_readBather (p : Nat) (n1 : Nat) (n2 : Int32) (w : rv_W) (hp : (rv_obj w p 2).isSome = true) : rv_EV 40 [.ref p, .ref n1, .int n2] w = ((rv_ri (rv_EV 11 [.ref n1] w)).bind fun q1 => (bif rv_cnd .eq q1.1 0 then ((rv_rv (rv_EV 47 [.ref p] q1.2)).bind fun q2 => ((rv_ri (rv_EV 45 [.ref p, .ref 1007] q2)).bind fun q3 => (bif rv_cnd .eq q3.1 0 then rv_GO rc_X3_readBather 32 [some (.ref p), some (.ref n1), some (.int n2), none, none, none] [.int 0] q3.2 else ((rv_ri (rv_EV 46 [.ref p, .int 9] q3.2)).bind fun q4 => rv_GO rc_X3_readBather 32 [some (.ref p), some (.ref n1), some (.int n2), none, none, none] [.int q4.1] q4.2)))) else some (some (.int 0), q1.2))) := by
  have e : rv_EV 40 [.ref p, .ref n1, .int n2] w = rv_GO rc_X3_readBather 0 [some (.ref p), some (.ref n1), some (.int n2), none, none, none] [] w := by
    show cond ((rv_obj w p 2).isSome && true) _ _ = _
    rw [hp]
    rfl
  rw [e, ← rv_blk_eq [32, 57, 85] 15]
  rfl
set_option maxRecDepth 100000 in
set_option maxHeartbeats 4000000 in
theorem bk_X3_readBather_32 (v0 : Nat) (v1 : Nat) (v2 : Int32) (s0 : Int32) (w : rv_W) : rv_GO rc_X3_readBather 32 [some (.ref v0), some (.ref v1), some (.int v2), none, none, none] [.int s0] w = (bif rv_cnd .ge s0 0 then ((rv_ri (rv_EV 45 [.ref v0, .ref 1008] w)).bind fun q1 => (bif rv_cnd .eq q1.1 0 then rv_GO rc_X3_readBather 57 [some (.ref v0), some (.ref v1), some (.int v2), some (.int s0), none, none] [.int 0] q1.2 else ((rv_ri (rv_EV 46 [.ref v0, .int 3] q1.2)).bind fun q2 => rv_GO rc_X3_readBather 57 [some (.ref v0), some (.ref v1), some (.int v2), some (.int s0), none, none] [.int q2.1] q2.2))) else some (some (.int 0), w)) := by
  rw [← rv_blk_eq [32, 57, 85] 13]
  rfl
set_option maxRecDepth 100000 in
set_option maxHeartbeats 4000000 in
theorem bk_X3_readBather_57 (v0 : Nat) (v1 : Nat) (v2 : Int32) (v3 : Int32) (s0 : Int32) (w : rv_W) : rv_GO rc_X3_readBather 57 [some (.ref v0), some (.ref v1), some (.int v2), some (.int v3), none, none] [.int s0] w = (bif rv_cnd .ge s0 0 then ((rv_ri (rv_EV 45 [.ref v0, .ref 1009] w)).bind fun q1 => (bif rv_cnd .eq q1.1 0 then rv_GO rc_X3_readBather 85 [none, some (.ref v1), some (.int v2), some (.int v3), some (.int s0), none] [.int 0] q1.2 else ((rv_ri (rv_EV 46 [.ref v0, .int 15] q1.2)).bind fun q2 => rv_GO rc_X3_readBather 85 [none, some (.ref v1), some (.int v2), some (.int v3), some (.int s0), none] [.int q2.1] q2.2))) else some (some (.int 0), w)) := by
  rw [← rv_blk_eq [32, 57, 85] 13]
  rfl
set_option maxRecDepth 100000 in
set_option maxHeartbeats 4000000 in
theorem bk_X3_readBather_85 (v1 : Nat) (v2 : Int32) (v3 : Int32) (v4 : Int32) (s0 : Int32) (w : rv_W) : rv_GO rc_X3_readBather 85 [none, some (.ref v1), some (.int v2), some (.int v3), some (.int v4), none] [.int s0] w = (bif rv_cnd .ge s0 0 then ((rv_ri (rv_EV 12 [.ref v1, .int v2, .int v3, .int v4, .int s0] w)).bind fun q1 => some (some (.int 1), q1.2)) else some (some (.int 0), w)) := by
  rw [← rv_blk_eq [32, 57, 85] 13]
  rfl
set_option maxRecDepth 100000 in
set_option maxHeartbeats 4000000 in
theorem ev_X3_readTub (p : Nat) (n1 : Nat) (w : rv_W) (hp : (rv_obj w p 2).isSome = true) : rv_EV 41 [.ref p, .ref n1] w = ((rv_ri (rv_EV 46 [.ref p, .int 9] w)).bind fun q1 => (bif rv_cnd .ge q1.1 0 then ((rv_ri (rv_EV 46 [.ref p, .int 99] q1.2)).bind fun q2 => (bif rv_cnd .ge q2.1 0 then ((rv_ldFR q2.2 n1 1 0).bind fun a3 => ((rv_stI q2.2 a3 q1.1 q2.1).bind fun w4 => ((rv_ri (rv_EV 45 [.ref p, .ref 1011] w4)).bind fun q5 => (bif rv_cnd .ne q5.1 0 then ((rv_ri (rv_EV 46 [.ref p, .int 3] q5.2)).bind fun q6 => (bif rv_cnd .ge q6.1 0 then ((rv_ri (rv_EV 46 [.ref p, .int 9999] q6.2)).bind fun q7 => (bif rv_cnd .ge q7.1 0 then ((rv_rv (rv_EV 16 [.ref n1, .int q1.1, .int q6.1, .int q7.1] q7.2)).bind fun q8 => some (some (.int 1), q8)) else some (some (.int 0), q7.2))) else some (some (.int 0), q6.2))) else some (some (.int 1), q5.2))))) else some (some (.int 0), q2.2))) else some (some (.int 0), q1.2))) := by
  have e : rv_EV 41 [.ref p, .ref n1] w = rv_GO rc_X3_readTub 0 [some (.ref p), some (.ref n1), none, none, none, none] [] w := by
    show cond ((rv_obj w p 2).isSome && true) _ _ = _
    rw [hp]
    rfl
  rw [e, ← rv_blk_eq [] 41]
  rfl
set_option maxRecDepth 100000 in
set_option maxHeartbeats 4000000 in
theorem ev_X3_kindAtHand (p : Nat) (w : rv_W) (hp : (rv_obj w p 2).isSome = true) : rv_EV 42 [.ref p] w = rv_GO rc_X3_kindAtHand 2 [some (.ref p), some (.int 0)] [] w := by
  have e : rv_EV 42 [.ref p] w = rv_GO rc_X3_kindAtHand 0 [some (.ref p), none] [] w := by
    show cond ((rv_obj w p 2).isSome && true) _ _ = _
    rw [hp]
    rfl
  rw [e, ← rv_blk_eq [2] 4]
  rfl
set_option maxRecDepth 100000 in
set_option maxHeartbeats 4000000 in
theorem bk_X3_kindAtHand_2 (v0 : Nat) (v1 : Int32) (w : rv_W) : rv_GO rc_X3_kindAtHand 2 [some (.ref v0), some (.int v1)] [] w = (bif rv_cnd .ge v1 7 then some (some (.int (-1)), w) else ((rv_rr (rv_EV 43 [.int v1] w)).bind fun q1 => ((rv_ri (rv_EV 44 [.ref v0, .ref q1.1] q1.2)).bind fun q2 => (bif rv_cnd .eq q2.1 0 then rv_GO rc_X3_kindAtHand 2 [some (.ref v0), some (.int (v1 + 1))] [] q2.2 else some (some (.int v1), q2.2))))) := by
  rw [← rv_blk_eq [2] 12]
  rfl
set_option maxRecDepth 100000 in
set_option maxHeartbeats 4000000 in
theorem ev_X3_kindWord (n1 : Int32) (w : rv_W) : rv_EV 43 [.int n1] w = (bif rv_eq n1 (Int32.ofInt 1) then some (some (.ref 1000), w) else (bif rv_eq n1 (Int32.ofInt 2) then some (some (.ref 1001), w) else (bif rv_eq n1 (Int32.ofInt 3) then some (some (.ref 1002), w) else (bif rv_eq n1 (Int32.ofInt 4) then some (some (.ref 1003), w) else (bif rv_eq n1 (Int32.ofInt 5) then some (some (.ref 1004), w) else (bif rv_eq n1 (Int32.ofInt 6) then some (some (.ref 1005), w) else some (some (.ref 1006), w))))))) := by
  have e : rv_EV 43 [.int n1] w = rv_GO rc_X3_kindWord 0 [some (.int n1)] [] w := by
    rfl
  rw [e, ← rv_blk_eq [] 5]
  rfl
set_option maxRecDepth 100000 in
set_option maxHeartbeats 4000000 in
theorem ev_X3_isAtHand (p : Nat) (n1 : Nat) (w : rv_W) (hp : (rv_obj w p 2).isSome = true) : rv_EV 44 [.ref p, .ref n1] w = ((rv_ldFI w p 2 2).bind fun x1 => (bif rv_cnd .ne x1 1 then some (some (.int 0), w) else ((rv_ldFI w p 2 4).bind fun x2 => ((rv_ldFI w p 2 3).bind fun x3 => ((rv_ri (rv_EV 210 [.ref n1] w)).bind fun q4 => (bif rv_cnd .eq (x2 - x3) q4.1 then rv_GO rc_X3_isAtHand 28 [some (.ref p), some (.ref n1), some (.int 0)] [] q4.2 else some (some (.int 0), q4.2))))))) := by
  have e : rv_EV 44 [.ref p, .ref n1] w = rv_GO rc_X3_isAtHand 0 [some (.ref p), some (.ref n1), none] [] w := by
    show cond ((rv_obj w p 2).isSome && true) _ _ = _
    rw [hp]
    rfl
  rw [e, ← rv_blk_eq [28] 16]
  rfl
set_option maxRecDepth 100000 in
set_option maxHeartbeats 4000000 in
theorem bk_X3_isAtHand_28 (v0 : Nat) (v1 : Nat) (v2 : Int32) (w : rv_W) : rv_GO rc_X3_isAtHand 28 [some (.ref v0), some (.ref v1), some (.int v2)] [] w = ((rv_ri (rv_EV 210 [.ref v1] w)).bind fun q1 => (bif rv_cnd .ge v2 q1.1 then some (some (.int 1), q1.2) else ((rv_ldFI q1.2 v0 2 3).bind fun x2 => ((rv_ri (rv_EV 48 [.ref v0, .int (x2 + v2)] q1.2)).bind fun q3 => ((rv_ri (rv_EV 211 [.ref v1, .int v2] q3.2)).bind fun q4 => (bif rv_cnd .eq q3.1 q4.1 then rv_GO rc_X3_isAtHand 28 [some (.ref v0), some (.ref v1), some (.int (v2 + 1))] [] q4.2 else some (some (.int 0), q4.2))))))) := by
  rw [← rv_blk_eq [28] 18]
  rfl
set_option maxRecDepth 100000 in
set_option maxHeartbeats 4000000 in
theorem ev_X3_passWord (p : Nat) (n1 : Nat) (w : rv_W) (hp : (rv_obj w p 2).isSome = true) : rv_EV 45 [.ref p, .ref n1] w = ((rv_ri (rv_EV 44 [.ref p, .ref n1] w)).bind fun q1 => (bif rv_cnd .eq q1.1 0 then (bif rv_bz q1.1 then some (some (.int q1.1), q1.2) else none) else ((rv_rv (rv_EV 47 [.ref p] q1.2)).bind fun q2 => (bif rv_bz q1.1 then some (some (.int q1.1), q2) else none)))) := by
  have e : rv_EV 45 [.ref p, .ref n1] w = rv_GO rc_X3_passWord 0 [some (.ref p), some (.ref n1), none] [] w := by
    show cond ((rv_obj w p 2).isSome && true) _ _ = _
    rw [hp]
    rfl
  rw [e, ← rv_blk_eq [] 11]
  rfl
set_option maxRecDepth 100000 in
set_option maxHeartbeats 4000000 in
theorem ev_X3_passNumber (p : Nat) (n1 : Int32) (w : rv_W) (hp : (rv_obj w p 2).isSome = true) : rv_EV 46 [.ref p, .int n1] w = ((rv_ldFI w p 2 2).bind fun x1 => (bif rv_cnd .ne x1 2 then some (some (.int (-1)), w) else ((rv_ldFI w p 2 5).bind fun x2 => (bif rv_cnd .le x2 n1 then ((rv_ldFI w p 2 5).bind fun x3 => ((rv_rv (rv_EV 47 [.ref p] w)).bind fun q4 => some (some (.int x3), q4))) else some (some (.int (-1)), w))))) := by
  have e : rv_EV 46 [.ref p, .int n1] w = rv_GO rc_X3_passNumber 0 [some (.ref p), some (.int n1), none] [] w := by
    show cond ((rv_obj w p 2).isSome && true) _ _ = _
    rw [hp]
    rfl
  rw [e, ← rv_blk_eq [] 16]
  rfl
set_option maxRecDepth 100000 in
set_option maxHeartbeats 4000000 in
theorem ev_X3_readToken (p : Nat) (w : rv_W) (hp : (rv_obj w p 2).isSome = true) : rv_EV 47 [.ref p] w = ((rv_ldFI w p 2 4).bind fun x1 => ((rv_stF w p 2 3 (.int x1)).bind fun w2 => rv_GO rc_X3_readToken 8 [some (.ref p), none] [] w2)) := by
  have e : rv_EV 47 [.ref p] w = rv_GO rc_X3_readToken 0 [some (.ref p), none] [] w := by
    show cond ((rv_obj w p 2).isSome && true) _ _ = _
    rw [hp]
    rfl
  rw [e, ← rv_blk_eq [8, 45, 93, 148] 6]
  rfl
set_option maxRecDepth 100000 in
set_option maxHeartbeats 4000000 in
theorem bk_X3_readToken_8 (v0 : Nat) (w : rv_W) : rv_GO rc_X3_readToken 8 [some (.ref v0), none] [] w = ((rv_ldFI w v0 2 3).bind fun x1 => ((rv_ldFI w v0 2 1).bind fun x2 => (bif rv_cnd .ge x1 x2 then rv_GO rc_X3_readToken 45 [some (.ref v0), none] [] w else ((rv_ldFI w v0 2 3).bind fun x3 => ((rv_ri (rv_EV 48 [.ref v0, .int x3] w)).bind fun q4 => (bif rv_cnd .ne q4.1 32 then rv_GO rc_X3_readToken 45 [some (.ref v0), none] [] q4.2 else ((rv_ldFI q4.2 v0 2 3).bind fun x5 => ((rv_stF q4.2 v0 2 3 (.int (x5 + 1))).bind fun w6 => rv_GO rc_X3_readToken 8 [some (.ref v0), none] [] w6)))))))) := by
  rw [← rv_blk_eq [8, 45, 93, 148] 20]
  rfl
set_option maxRecDepth 100000 in
set_option maxHeartbeats 4000000 in
theorem bk_X3_readToken_45 (v0 : Nat) (w : rv_W) : rv_GO rc_X3_readToken 45 [some (.ref v0), none] [] w = ((rv_ldFI w v0 2 3).bind fun x1 => ((rv_stF w v0 2 4 (.int x1)).bind fun w2 => ((rv_ldFI w2 v0 2 3).bind fun x3 => ((rv_ri (rv_EV 48 [.ref v0, .int x3] w2)).bind fun q4 => ((rv_ldFI q4.2 v0 2 3).bind fun x5 => ((rv_ldFI q4.2 v0 2 1).bind fun x6 => (bif rv_cnd .lt x5 x6 then ((rv_ri (rv_EV 49 [.int q4.1] q4.2)).bind fun q7 => (bif rv_cnd .eq q7.1 0 then ((rv_ri (rv_EV 50 [.int q4.1] q7.2)).bind fun q8 => (bif rv_cnd .eq q8.1 0 then (bif rv_cnd .ne q4.1 59 then ((rv_stF q8.2 v0 2 2 (.int 4)).bind fun w9 => ((rv_ldFI w9 v0 2 4).bind fun x10 => ((rv_stF w9 v0 2 4 (.int (x10 + 1))).bind fun w11 => some (none, w11)))) else ((rv_stF q8.2 v0 2 2 (.int 3)).bind fun w12 => ((rv_ldFI w12 v0 2 4).bind fun x13 => ((rv_stF w12 v0 2 4 (.int (x13 + 1))).bind fun w14 => some (none, w14))))) else ((rv_stF q8.2 v0 2 2 (.int 2)).bind fun w15 => ((rv_stF w15 v0 2 5 (.int 0)).bind fun w16 => rv_GO rc_X3_readToken 148 [some (.ref v0), none] [] w16)))) else ((rv_stF q7.2 v0 2 2 (.int 1)).bind fun w17 => rv_GO rc_X3_readToken 93 [some (.ref v0), none] [] w17))) else ((rv_stF q4.2 v0 2 2 (.int 0)).bind fun w18 => some (none, w18))))))))) := by
  rw [← rv_blk_eq [8, 45, 93, 148] 35]
  rfl
set_option maxRecDepth 100000 in
set_option maxHeartbeats 4000000 in
theorem bk_X3_readToken_93 (v0 : Nat) (w : rv_W) : rv_GO rc_X3_readToken 93 [some (.ref v0), none] [] w = ((rv_ldFI w v0 2 4).bind fun x1 => ((rv_ldFI w v0 2 1).bind fun x2 => (bif rv_cnd .ge x1 x2 then some (none, w) else ((rv_ldFI w v0 2 4).bind fun x3 => ((rv_ri (rv_EV 48 [.ref v0, .int x3] w)).bind fun q4 => ((rv_ri (rv_EV 49 [.int q4.1] q4.2)).bind fun q5 => (bif rv_cnd .eq q5.1 0 then some (none, q5.2) else ((rv_ldFI q5.2 v0 2 4).bind fun x6 => ((rv_stF q5.2 v0 2 4 (.int (x6 + 1))).bind fun w7 => rv_GO rc_X3_readToken 93 [some (.ref v0), none] [] w7))))))))) := by
  rw [← rv_blk_eq [8, 45, 93, 148] 20]
  rfl
set_option maxRecDepth 100000 in
set_option maxHeartbeats 4000000 in
theorem bk_X3_readToken_148 (v0 : Nat) (w : rv_W) : rv_GO rc_X3_readToken 148 [some (.ref v0), none] [] w = ((rv_ldFI w v0 2 4).bind fun x1 => ((rv_ldFI w v0 2 1).bind fun x2 => (bif rv_cnd .ge x1 x2 then some (none, w) else ((rv_ldFI w v0 2 4).bind fun x3 => ((rv_ri (rv_EV 48 [.ref v0, .int x3] w)).bind fun q4 => ((rv_ri (rv_EV 50 [.int q4.1] q4.2)).bind fun q5 => (bif rv_cnd .eq q5.1 0 then some (none, q5.2) else ((rv_ldFI q5.2 v0 2 5).bind fun x6 => ((rv_ldFI q5.2 v0 2 4).bind fun x7 => ((rv_ri (rv_EV 48 [.ref v0, .int x7] q5.2)).bind fun q8 => ((rv_stF q8.2 v0 2 5 (.int (rv_min (((x6 * 10) + q8.1) - 48) 10000))).bind fun w9 => ((rv_ldFI w9 v0 2 4).bind fun x10 => ((rv_stF w9 v0 2 4 (.int (x10 + 1))).bind fun w11 => rv_GO rc_X3_readToken 148 [some (.ref v0), none] [] w11))))))))))))) := by
  rw [← rv_blk_eq [8, 45, 93, 148] 35]
  rfl
set_option maxRecDepth 100000 in
set_option maxHeartbeats 4000000 in
theorem ev_X3_byteAt (p : Nat) (n1 : Int32) (w : rv_W) (hp : (rv_obj w p 2).isSome = true) : rv_EV 48 [.ref p, .int n1] w = (bif rv_cnd .lt n1 0 then some (some (.int (-1)), w) else ((rv_ldFI w p 2 1).bind fun x1 => (bif rv_cnd .ge n1 x1 then some (some (.int (-1)), w) else ((rv_ldFR w p 2 0).bind fun a2 => ((rv_ldB w a2 n1).bind fun x3 => some (some (.int x3), w)))))) := by
  have e : rv_EV 48 [.ref p, .int n1] w = rv_GO rc_X3_byteAt 0 [some (.ref p), some (.int n1)] [] w := by
    show cond ((rv_obj w p 2).isSome && true) _ _ = _
    rw [hp]
    rfl
  rw [e, ← rv_blk_eq [] 13]
  rfl
set_option maxRecDepth 100000 in
set_option maxHeartbeats 4000000 in
theorem ev_X3_isLetter (n1 : Int32) (w : rv_W) : rv_EV 49 [.int n1] w = (bif rv_cnd .lt n1 97 then some (some (.int 0), w) else (bif rv_cnd .gt n1 122 then some (some (.int 0), w) else some (some (.int 1), w))) := by
  have e : rv_EV 49 [.int n1] w = rv_GO rc_X3_isLetter 0 [some (.int n1)] [] w := by
    rfl
  rw [e, ← rv_blk_eq [] 10]
  rfl
set_option maxRecDepth 100000 in
set_option maxHeartbeats 4000000 in
theorem ev_X3_isDigit (n1 : Int32) (w : rv_W) : rv_EV 50 [.int n1] w = (bif rv_cnd .lt n1 48 then some (some (.int 0), w) else (bif rv_cnd .gt n1 57 then some (some (.int 0), w) else some (some (.int 1), w))) := by
  have e : rv_EV 50 [.int n1] w = rv_GO rc_X3_isDigit 0 [some (.int n1)] [] w := by
    rfl
  rw [e, ← rv_blk_eq [] 10]
  rfl
end
section
set_option maxRecDepth 100000 in
set_option maxHeartbeats 4000000 in
theorem ev_X4_warm (p : Nat) (n1 : Int32) (n2 : Int32) (w : rv_W) (hp : (rv_obj w p 3).isSome = true) : rv_EV 51 [.ref p, .int n1, .int n2] w = ((rv_ri (rv_EV 97 [.int n1] w)).bind fun q1 => (bif rv_cnd .eq q1.1 0 then ((rv_ri (rv_EV 95 [.ref p, .int 0] q1.2)).bind fun q2 => some (some (.int q2.1), q2.2)) else ((rv_ri (rv_EV 96 [.int n2, .int 99] q1.2)).bind fun q3 => (bif rv_cnd .ne q3.1 0 then ((rv_ldFR q3.2 p 3 0).bind fun a4 => ((rv_ldFR q3.2 a4 1 0).bind fun a5 => ((rv_ldI q3.2 a5 n1).bind fun x6 => ((rv_ldFR q3.2 p 3 0).bind fun a7 => ((rv_ldFR q3.2 a7 1 0).bind fun a8 => ((rv_stI q3.2 a8 n1 n2).bind fun w9 => some (some (.int x6), w9))))))) else ((rv_ri (rv_EV 95 [.ref p, .int 0] q3.2)).bind fun q10 => some (some (.int q10.1), q10.2)))))) := by
  have e : rv_EV 51 [.ref p, .int n1, .int n2] w = rv_GO rc_X4_warm 0 [some (.ref p), some (.int n1), some (.int n2), none] [] w := by
    show cond ((rv_obj w p 3).isSome && true) _ _ = _
    rw [hp]
    rfl
  rw [e, ← rv_blk_eq [] 22]
  rfl
set_option maxRecDepth 100000 in
set_option maxHeartbeats 4000000 in
theorem ev_X4_scent (p : Nat) (n1 : Int32) (n2 : Int32) (n3 : Int32) (w : rv_W) (hp : (rv_obj w p 3).isSome = true) : rv_EV 52 [.ref p, .int n1, .int n2, .int n3] w = ((rv_ri (rv_EV 97 [.int n1] w)).bind fun q1 => (bif rv_cnd .eq q1.1 0 then ((rv_ri (rv_EV 95 [.ref p, .int 0] q1.2)).bind fun q2 => some (some (.int q2.1), q2.2)) else ((rv_ri (rv_EV 98 [.int n2] q1.2)).bind fun q3 => (bif rv_cnd .eq q3.1 0 then ((rv_ri (rv_EV 95 [.ref p, .int 0] q3.2)).bind fun q4 => some (some (.int q4.1), q4.2)) else ((rv_ri (rv_EV 96 [.int n3, .int 9999] q3.2)).bind fun q5 => (bif rv_cnd .ne q5.1 0 then ((rv_ldFR q5.2 p 3 0).bind fun a6 => ((rv_ri (rv_EV 15 [.ref a6, .int n1, .int n2] q5.2)).bind fun q7 => ((rv_ldFR q7.2 p 3 0).bind fun a8 => ((rv_rv (rv_EV 16 [.ref a8, .int n1, .int n2, .int n3] q7.2)).bind fun q9 => some (some (.int q7.1), q9))))) else ((rv_ri (rv_EV 95 [.ref p, .int 0] q5.2)).bind fun q10 => some (some (.int q10.1), q10.2)))))))) := by
  have e : rv_EV 52 [.ref p, .int n1, .int n2, .int n3] w = rv_GO rc_X4_scent 0 [some (.ref p), some (.int n1), some (.int n2), some (.int n3), none] [] w := by
    show cond ((rv_obj w p 3).isSome && true) _ _ = _
    rw [hp]
    rfl
  rw [e, ← rv_blk_eq [] 25]
  rfl
set_option maxRecDepth 100000 in
set_option maxHeartbeats 4000000 in
theorem ev_X4_tub (p : Nat) (n1 : Int32) (n2 : Int32) (w : rv_W) (hp : (rv_obj w p 3).isSome = true) : rv_EV 53 [.ref p, .int n1, .int n2] w = ((rv_ri (rv_EV 97 [.int n1] w)).bind fun q1 => (bif rv_cnd .eq q1.1 0 then ((rv_ri (rv_EV 95 [.ref p, .int 0] q1.2)).bind fun q2 => some (some (.int q2.1), q2.2)) else ((rv_ri (rv_EV 96 [.int n2, .int 6] q1.2)).bind fun q3 => (bif rv_cnd .ne q3.1 0 then (bif rv_eq n2 (Int32.ofInt 4) then ((rv_ldFR q3.2 p 3 0).bind fun a10 => ((rv_ldFR q3.2 a10 1 0).bind fun a11 => ((rv_ldI q3.2 a11 n1).bind fun x12 => some (some (.int x12), q3.2)))) else (bif rv_eq n2 (Int32.ofInt 5) then ((rv_ldFR q3.2 p 3 0).bind fun a8 => ((rv_ri (rv_EV 28 [.ref a8, .int n1] q3.2)).bind fun q9 => some (some (.int q9.1), q9.2))) else (bif rv_eq n2 (Int32.ofInt 6) then ((rv_ldFR q3.2 p 3 0).bind fun a6 => ((rv_ri (rv_EV 17 [.ref a6, .int n1] q3.2)).bind fun q7 => some (some (.int q7.1), q7.2))) else ((rv_ldFR q3.2 p 3 0).bind fun a4 => ((rv_ri (rv_EV 15 [.ref a4, .int n1, .int n2] q3.2)).bind fun q5 => some (some (.int q5.1), q5.2)))))) else ((rv_ri (rv_EV 95 [.ref p, .int 0] q3.2)).bind fun q13 => some (some (.int q13.1), q13.2)))))) := by
  have e : rv_EV 53 [.ref p, .int n1, .int n2] w = rv_GO rc_X4_tub 0 [some (.ref p), some (.int n1), some (.int n2)] [] w := by
    show cond ((rv_obj w p 3).isSome && true) _ _ = _
    rw [hp]
    rfl
  rw [e, ← rv_blk_eq [] 16]
  rfl
set_option maxRecDepth 100000 in
set_option maxHeartbeats 4000000 in
theorem ev_X4_fresh (p : Nat) (n1 : Int32) (w : rv_W) (hp : (rv_obj w p 3).isSome = true) : rv_EV 54 [.ref p, .int n1] w = ((rv_ri (rv_EV 96 [.int n1, .int 99] w)).bind fun q1 => (bif rv_cnd .ne q1.1 0 then ((rv_ldFR q1.2 p 3 0).bind fun a2 => ((rv_ldFI q1.2 a2 1 8).bind fun x3 => ((rv_ldFR q1.2 p 3 0).bind fun a4 => ((rv_stF q1.2 a4 1 8 (.int n1)).bind fun w5 => some (some (.int x3), w5))))) else ((rv_ri (rv_EV 95 [.ref p, .int 0] q1.2)).bind fun q6 => some (some (.int q6.1), q6.2)))) := by
  have e : rv_EV 54 [.ref p, .int n1] w = rv_GO rc_X4_fresh 0 [some (.ref p), some (.int n1), none] [] w := by
    show cond ((rv_obj w p 3).isSome && true) _ _ = _
    rw [hp]
    rfl
  rw [e, ← rv_blk_eq [] 15]
  rfl
set_option maxRecDepth 100000 in
set_option maxHeartbeats 4000000 in
theorem ev_X4_plug (p : Nat) (n1 : Int32) (w : rv_W) (hp : (rv_obj w p 3).isSome = true) : rv_EV 55 [.ref p, .int n1] w = ((rv_ri (rv_EV 97 [.int n1] w)).bind fun q1 => (bif rv_cnd .ne q1.1 0 then ((rv_ldFR q1.2 p 3 0).bind fun a2 => ((rv_ri (rv_EV 17 [.ref a2, .int n1] q1.2)).bind fun q3 => ((rv_ldFR q3.2 p 3 0).bind fun a4 => ((rv_rv (rv_EV 18 [.ref a4, .int n1] q3.2)).bind fun q5 => some (some (.int q3.1), q5))))) else ((rv_ri (rv_EV 95 [.ref p, .int 0] q1.2)).bind fun q6 => some (some (.int q6.1), q6.2)))) := by
  have e : rv_EV 55 [.ref p, .int n1] w = rv_GO rc_X4_plug 0 [some (.ref p), some (.int n1), none] [] w := by
    show cond ((rv_obj w p 3).isSome && true) _ _ = _
    rw [hp]
    rfl
  rw [e, ← rv_blk_eq [] 15]
  rfl
set_option maxRecDepth 100000 in
set_option maxHeartbeats 4000000 in
theorem ev_X4_bather (p : Nat) (n1 : Int32) (n2 : Int32) (w : rv_W) (hp : (rv_obj w p 3).isSome = true) : rv_EV 56 [.ref p, .int n1, .int n2] w = ((rv_ri (rv_EV 0 [.int n1] w)).bind fun q1 => (bif rv_cnd .eq q1.1 0 then ((rv_ri (rv_EV 95 [.ref p, .int 0] q1.2)).bind fun q2 => some (some (.int q2.1), q2.2)) else ((rv_ri (rv_EV 97 [.int n2] q1.2)).bind fun q3 => (bif rv_cnd .ne q3.1 0 then ((rv_ldFR q3.2 p 3 0).bind fun a4 => ((rv_ri (rv_EV 11 [.ref a4] q3.2)).bind fun q5 => (bif rv_cnd .eq q5.1 0 then ((rv_ldFR q5.2 p 3 0).bind fun a6 => ((rv_ri (rv_EV 12 [.ref a6, .int n1, .int n2, .int 0, .int 0] q5.2)).bind fun q7 => some (some (.int q7.1), q7.2))) else ((rv_ri (rv_EV 95 [.ref p, .int 1] q5.2)).bind fun q8 => some (some (.int q8.1), q8.2))))) else ((rv_ri (rv_EV 95 [.ref p, .int 0] q3.2)).bind fun q9 => some (some (.int q9.1), q9.2)))))) := by
  have e : rv_EV 56 [.ref p, .int n1, .int n2] w = rv_GO rc_X4_bather 0 [some (.ref p), some (.int n1), some (.int n2)] [] w := by
    show cond ((rv_obj w p 3).isSome && true) _ _ = _
    rw [hp]
    rfl
  rw [e, ← rv_blk_eq [] 19]
  rfl
set_option maxRecDepth 100000 in
set_option maxHeartbeats 4000000 in
theorem ev_X4_of (p : Nat) (n1 : Int32) (n2 : Int32) (w : rv_W) (hp : (rv_obj w p 3).isSome = true) : rv_EV 57 [.ref p, .int n1, .int n2] w = ((rv_ldFR w p 3 0).bind fun a1 => ((rv_ri (rv_EV 10 [.ref a1, .int n1] w)).bind fun q2 => (bif rv_cnd .eq q2.1 0 then ((rv_ri (rv_EV 95 [.ref p, .int 0] q2.2)).bind fun q3 => some (some (.int q3.1), q3.2)) else ((rv_ri (rv_EV 96 [.int n2, .int 7] q2.2)).bind fun q4 => (bif rv_cnd .ne q4.1 0 then (bif rv_eq n2 (Int32.ofInt 0) then ((rv_ldFR q4.2 p 3 0).bind fun a26 => ((rv_ldFR q4.2 a26 1 2).bind fun a27 => ((rv_ldI q4.2 a27 n1).bind fun x28 => some (some (.int x28), q4.2)))) else (bif rv_eq n2 (Int32.ofInt 1) then ((rv_ldFR q4.2 p 3 0).bind fun a23 => ((rv_ldFR q4.2 a23 1 3).bind fun a24 => ((rv_ldI q4.2 a24 n1).bind fun x25 => some (some (.int x25), q4.2)))) else (bif rv_eq n2 (Int32.ofInt 2) then ((rv_ldFR q4.2 p 3 0).bind fun a20 => ((rv_ldFR q4.2 a20 1 4).bind fun a21 => ((rv_ldI q4.2 a21 n1).bind fun x22 => some (some (.int x22), q4.2)))) else (bif rv_eq n2 (Int32.ofInt 3) then ((rv_ldFR q4.2 p 3 0).bind fun a17 => ((rv_ldFR q4.2 a17 1 5).bind fun a18 => ((rv_ldI q4.2 a18 n1).bind fun x19 => some (some (.int x19), q4.2)))) else (bif rv_eq n2 (Int32.ofInt 4) then ((rv_ldFR q4.2 p 3 0).bind fun a15 => ((rv_ri (rv_EV 26 [.ref a15, .int n1] q4.2)).bind fun q16 => some (some (.int q16.1), q16.2))) else (bif rv_eq n2 (Int32.ofInt 5) then ((rv_ldFR q4.2 p 3 0).bind fun a11 => ((rv_ldFR q4.2 a11 1 2).bind fun a12 => ((rv_ldI q4.2 a12 n1).bind fun x13 => ((rv_ri (rv_EV 3 [.int x13] q4.2)).bind fun q14 => some (some (.int q14.1), q14.2))))) else (bif rv_eq n2 (Int32.ofInt 6) then ((rv_ldFR q4.2 p 3 0).bind fun a7 => ((rv_ldFR q4.2 a7 1 2).bind fun a8 => ((rv_ldI q4.2 a8 n1).bind fun x9 => ((rv_ri (rv_EV 4 [.int x9] q4.2)).bind fun q10 => some (some (.int q10.1), q10.2))))) else ((rv_ldFR q4.2 p 3 0).bind fun a5 => ((rv_ri (rv_EV 27 [.ref a5, .int n1] q4.2)).bind fun q6 => some (some (.int q6.1), q6.2)))))))))) else ((rv_ri (rv_EV 95 [.ref p, .int 0] q4.2)).bind fun q29 => some (some (.int q29.1), q29.2))))))) := by
  have e : rv_EV 57 [.ref p, .int n1, .int n2] w = rv_GO rc_X4_of 0 [some (.ref p), some (.int n1), some (.int n2)] [] w := by
    show cond ((rv_obj w p 3).isSome && true) _ _ = _
    rw [hp]
    rfl
  rw [e, ← rv_blk_eq [] 19]
  rfl
set_option maxRecDepth 100000 in
set_option maxHeartbeats 4000000 in
theorem ev_X4_change (p : Nat) (n1 : Int32) (n2 : Int32) (n3 : Int32) (w : rv_W) (hp : (rv_obj w p 3).isSome = true) : rv_EV 58 [.ref p, .int n1, .int n2, .int n3] w = ((rv_ldFR w p 3 0).bind fun a1 => ((rv_ri (rv_EV 10 [.ref a1, .int n1] w)).bind fun q2 => (bif rv_cnd .eq q2.1 0 then ((rv_ri (rv_EV 95 [.ref p, .int 0] q2.2)).bind fun q3 => some (some (.int q3.1), q3.2)) else ((rv_ri (rv_EV 96 [.int n2, .int 3] q2.2)).bind fun q4 => (bif rv_cnd .eq q4.1 0 then ((rv_ri (rv_EV 95 [.ref p, .int 0] q4.2)).bind fun q5 => some (some (.int q5.1), q5.2)) else ((rv_ri (rv_EV 101 [.int n2] q4.2)).bind fun q6 => ((rv_ri (rv_EV 96 [.int n3, .int q6.1] q6.2)).bind fun q7 => (bif rv_cnd .ne q7.1 0 then ((rv_ldFR q7.2 p 3 0).bind fun a8 => ((rv_rr (rv_EV 13 [.ref a8, .int n2] q7.2)).bind fun q9 => ((rv_ldI q9.2 q9.1 n1).bind fun x10 => ((rv_stI q9.2 q9.1 n1 n3).bind fun w11 => some (some (.int x10), w11))))) else ((rv_ri (rv_EV 95 [.ref p, .int 0] q7.2)).bind fun q12 => some (some (.int q12.1), q12.2)))))))))) := by
  have e : rv_EV 58 [.ref p, .int n1, .int n2, .int n3] w = rv_GO rc_X4_change 0 [some (.ref p), some (.int n1), some (.int n2), some (.int n3), none, none] [] w := by
    show cond ((rv_obj w p 3).isSome && true) _ _ = _
    rw [hp]
    rfl
  rw [e, ← rv_blk_eq [] 30]
  rfl
set_option maxRecDepth 100000 in
set_option maxHeartbeats 4000000 in
theorem ev_X4_swap (p : Nat) (n1 : Int32) (n2 : Int32) (w : rv_W) (hp : (rv_obj w p 3).isSome = true) : rv_EV 59 [.ref p, .int n1, .int n2] w = ((rv_ldFR w p 3 0).bind fun a1 => ((rv_ri (rv_EV 10 [.ref a1, .int n1] w)).bind fun q2 => (bif rv_cnd .eq q2.1 0 then ((rv_ri (rv_EV 95 [.ref p, .int 0] q2.2)).bind fun q3 => some (some (.int q3.1), q3.2)) else ((rv_ldFR q2.2 p 3 0).bind fun a4 => ((rv_ri (rv_EV 10 [.ref a4, .int n2] q2.2)).bind fun q5 => (bif rv_cnd .eq q5.1 0 then ((rv_ri (rv_EV 95 [.ref p, .int 0] q5.2)).bind fun q6 => some (some (.int q6.1), q6.2)) else (bif rv_cnd .ne n1 n2 then ((rv_ldFR q5.2 p 3 0).bind fun a7 => ((rv_ldFR q5.2 a7 1 3).bind fun a8 => ((rv_ldI q5.2 a8 n1).bind fun x9 => ((rv_ldFR q5.2 p 3 0).bind fun a10 => ((rv_ldFR q5.2 a10 1 3).bind fun a11 => ((rv_ldI q5.2 a11 n2).bind fun x12 => (bif rv_cnd .eq x9 x12 then rv_GO rc_X4_swap 59 [some (.ref p), some (.int n1), some (.int n2), none] [.int 0] q5.2 else rv_GO rc_X4_swap 59 [some (.ref p), some (.int n1), some (.int n2), none] [.int 1] q5.2))))))) else ((rv_ri (rv_EV 95 [.ref p, .int 0] q5.2)).bind fun q13 => some (some (.int q13.1), q13.2))))))))) := by
  have e : rv_EV 59 [.ref p, .int n1, .int n2] w = rv_GO rc_X4_swap 0 [some (.ref p), some (.int n1), some (.int n2), none] [] w := by
    show cond ((rv_obj w p 3).isSome && true) _ _ = _
    rw [hp]
    rfl
  rw [e, ← rv_blk_eq [59] 28]
  rfl
set_option maxRecDepth 100000 in
set_option maxHeartbeats 4000000 in
theorem bk_X4_swap_59 (v0 : Nat) (v1 : Int32) (v2 : Int32) (s0 : Int32) (w : rv_W) : rv_GO rc_X4_swap 59 [some (.ref v0), some (.int v1), some (.int v2), none] [.int s0] w = ((rv_ldFR w v0 3 0).bind fun a1 => ((rv_rv (rv_EV 14 [.ref a1, .int v1, .int v2] w)).bind fun q2 => (bif rv_cnd .eq s0 0 then some (some (.int 0), q2) else some (some (.int 1), q2)))) := by
  rw [← rv_blk_eq [59] 12]
  rfl
set_option maxRecDepth 100000 in
set_option maxHeartbeats 4000000 in
theorem ev_X4_go (p : Nat) (n1 : Int32) (w : rv_W) (hp : (rv_obj w p 3).isSome = true) : rv_EV 60 [.ref p, .int n1] w = (bif rv_cnd .lt n1 1 then ((rv_ri (rv_EV 95 [.ref p, .int 0] w)).bind fun q1 => some (some (.int q1.1), q1.2)) else (bif rv_cnd .le n1 40 then ((rv_ldFR w p 3 0).bind fun a2 => ((rv_ldFI w a2 1 9).bind fun x3 => (bif rv_cnd .le x3 (99999 - n1) then ((rv_ldFR w p 3 0).bind fun a4 => ((rv_rv (rv_EV 20 [.ref a4, .int n1] w)).bind fun q5 => ((rv_ldFR q5 p 3 0).bind fun a6 => ((rv_ldFR q5 a6 1 0).bind fun a7 => ((rv_ldI q5 a7 9).bind fun x8 => some (some (.int x8), q5)))))) else ((rv_ri (rv_EV 95 [.ref p, .int 4] w)).bind fun q9 => some (some (.int q9.1), q9.2))))) else ((rv_ri (rv_EV 95 [.ref p, .int 0] w)).bind fun q10 => some (some (.int q10.1), q10.2)))) := by
  have e : rv_EV 60 [.ref p, .int n1] w = rv_GO rc_X4_go 0 [some (.ref p), some (.int n1)] [] w := by
    show cond ((rv_obj w p 3).isSome && true) _ _ = _
    rw [hp]
    rfl
  rw [e, ← rv_blk_eq [] 24]
  rfl
set_option maxRecDepth 100000 in
set_option maxHeartbeats 4000000 in
theorem ev_X4_now (p : Nat) (n1 : Int32) (w : rv_W) (hp : (rv_obj w p 3).isSome = true) : rv_EV 61 [.ref p, .int n1] w = ((rv_ri (rv_EV 96 [.int n1, .int 5] w)).bind fun q1 => (bif rv_cnd .ne q1.1 0 then (bif rv_eq n1 (Int32.ofInt 1) then ((rv_ldFR q1.2 p 3 0).bind fun a12 => ((rv_ri (rv_EV 35 [.ref a12] q1.2)).bind fun q13 => some (some (.int q13.1), q13.2))) else (bif rv_eq n1 (Int32.ofInt 2) then ((rv_ldFR q1.2 p 3 0).bind fun a10 => ((rv_ri (rv_EV 36 [.ref a10] q1.2)).bind fun q11 => some (some (.int q11.1), q11.2))) else (bif rv_eq n1 (Int32.ofInt 3) then ((rv_ldFR q1.2 p 3 0).bind fun a8 => ((rv_ri (rv_EV 33 [.ref a8, .int 40] q1.2)).bind fun q9 => some (some (.int q9.1), q9.2))) else (bif rv_eq n1 (Int32.ofInt 4) then ((rv_ldFR q1.2 p 3 0).bind fun a6 => ((rv_ri (rv_EV 30 [.ref a6] q1.2)).bind fun q7 => some (some (.int q7.1), q7.2))) else (bif rv_eq n1 (Int32.ofInt 5) then ((rv_ldFR q1.2 p 3 0).bind fun a4 => ((rv_ri (rv_EV 31 [.ref a4] q1.2)).bind fun q5 => some (some (.int q5.1), q5.2))) else ((rv_ldFR q1.2 p 3 0).bind fun a2 => ((rv_ldFI q1.2 a2 1 9).bind fun x3 => some (some (.int x3), q1.2)))))))) else ((rv_ri (rv_EV 95 [.ref p, .int 0] q1.2)).bind fun q14 => some (some (.int q14.1), q14.2)))) := by
  have e : rv_EV 61 [.ref p, .int n1] w = rv_GO rc_X4_now 0 [some (.ref p), some (.int n1)] [] w := by
    show cond ((rv_obj w p 3).isSome && true) _ _ = _
    rw [hp]
    rfl
  rw [e, ← rv_blk_eq [] 12]
  rfl
set_option maxRecDepth 100000 in
set_option maxHeartbeats 4000000 in
theorem ev_X4_ahead (p : Nat) (n1 : Int32) (n2 : Int32) (n3 : Int32) (w : rv_W) (hp : (rv_obj w p 3).isSome = true) : rv_EV 62 [.ref p, .int n1, .int n2, .int n3] w = ((rv_ri (rv_EV 97 [.int n1] w)).bind fun q1 => (bif rv_cnd .eq q1.1 0 then ((rv_ri (rv_EV 95 [.ref p, .int 0] q1.2)).bind fun q2 => some (some (.int q2.1), q2.2)) else ((rv_ri (rv_EV 96 [.int n2, .int 4] q1.2)).bind fun q3 => (bif rv_cnd .eq q3.1 0 then ((rv_ri (rv_EV 95 [.ref p, .int 0] q3.2)).bind fun q4 => some (some (.int q4.1), q4.2)) else ((rv_ri (rv_EV 96 [.int n3, .int 60] q3.2)).bind fun q5 => (bif rv_cnd .ne q5.1 0 then ((rv_ldFR q5.2 p 3 2).bind fun a6 => ((rv_ldFR q5.2 p 3 0).bind fun a7 => ((rv_rv (rv_EV 9 [.ref a6, .ref a7] q5.2)).bind fun q8 => ((rv_ldFR q8 p 3 2).bind fun a9 => ((rv_rv (rv_EV 20 [.ref a9, .int n3] q8)).bind fun q10 => (bif rv_cnd .ne n2 4 then ((rv_ldFR q10 p 3 2).bind fun a11 => ((rv_ri (rv_EV 15 [.ref a11, .int n1, .int n2] q10)).bind fun q12 => some (some (.int q12.1), q12.2))) else ((rv_ldFR q10 p 3 2).bind fun a13 => ((rv_ldFR q10 a13 1 0).bind fun a14 => ((rv_ldI q10 a14 n1).bind fun x15 => some (some (.int x15), q10)))))))))) else ((rv_ri (rv_EV 95 [.ref p, .int 0] q5.2)).bind fun q16 => some (some (.int q16.1), q16.2)))))))) := by
  have e : rv_EV 62 [.ref p, .int n1, .int n2, .int n3] w = rv_GO rc_X4_ahead 0 [some (.ref p), some (.int n1), some (.int n2), some (.int n3)] [] w := by
    show cond ((rv_obj w p 3).isSome && true) _ _ = _
    rw [hp]
    rfl
  rw [e, ← rv_blk_eq [] 31]
  rfl
set_option maxRecDepth 100000 in
set_option maxHeartbeats 4000000 in
theorem ev_X4_knows (p : Nat) (n1 : Int32) (n2 : Int32) (w : rv_W) (hp : (rv_obj w p 3).isSome = true) : rv_EV 63 [.ref p, .int n1, .int n2] w = ((rv_ldFR w p 3 0).bind fun a1 => ((rv_ri (rv_EV 10 [.ref a1, .int n1] w)).bind fun q2 => (bif rv_cnd .eq q2.1 0 then ((rv_ri (rv_EV 95 [.ref p, .int 0] q2.2)).bind fun q3 => some (some (.int q3.1), q3.2)) else ((rv_ri (rv_EV 96 [.int n2, .int 60] q2.2)).bind fun q4 => (bif rv_cnd .ne q4.1 0 then ((rv_ldFR q4.2 p 3 2).bind fun a5 => ((rv_ldFR q4.2 p 3 0).bind fun a6 => ((rv_rv (rv_EV 9 [.ref a5, .ref a6] q4.2)).bind fun q7 => ((rv_ldFR q7 p 3 2).bind fun a8 => ((rv_rv (rv_EV 20 [.ref a8, .int n2] q7)).bind fun q9 => ((rv_ldFR q9 p 3 2).bind fun a10 => ((rv_ldFR q9 a10 1 5).bind fun a11 => ((rv_ldI q9 a11 n1).bind fun x12 => some (some (.int x12), q9))))))))) else ((rv_ri (rv_EV 95 [.ref p, .int 0] q4.2)).bind fun q13 => some (some (.int q13.1), q13.2))))))) := by
  have e : rv_EV 63 [.ref p, .int n1, .int n2] w = rv_GO rc_X4_knows 0 [some (.ref p), some (.int n1), some (.int n2)] [] w := by
    show cond ((rv_obj w p 3).isSome && true) _ _ = _
    rw [hp]
    rfl
  rw [e, ← rv_blk_eq [] 25]
  rfl
set_option maxRecDepth 100000 in
set_option maxHeartbeats 4000000 in
theorem ev_X4_when (p : Nat) (n1 : Int32) (n2 : Int32) (w : rv_W) (hp : (rv_obj w p 3).isSome = true) : rv_EV 64 [.ref p, .int n1, .int n2] w = ((rv_ldFR w p 3 0).bind fun a1 => ((rv_ri (rv_EV 10 [.ref a1, .int n1] w)).bind fun q2 => (bif rv_cnd .eq q2.1 0 then ((rv_ri (rv_EV 95 [.ref p, .int 0] q2.2)).bind fun q3 => some (some (.int q3.1), q3.2)) else ((rv_ri (rv_EV 98 [.int n2] q2.2)).bind fun q4 => (bif rv_cnd .ne q4.1 0 then ((rv_ldFR q4.2 p 3 2).bind fun a5 => ((rv_ldFR q4.2 p 3 0).bind fun a6 => ((rv_rv (rv_EV 9 [.ref a5, .ref a6] q4.2)).bind fun q7 => ((rv_ri (rv_EV 104 [.ref p, .int n1, .int n2, .int 60] q7)).bind fun q8 => (bif rv_cnd .ge q8.1 0 then some (some (.int q8.1), q8.2) else ((rv_ri (rv_EV 95 [.ref p, .int 3] q8.2)).bind fun q9 => some (some (.int q9.1), q9.2))))))) else ((rv_ri (rv_EV 95 [.ref p, .int 0] q4.2)).bind fun q10 => some (some (.int q10.1), q10.2))))))) := by
  have e : rv_EV 64 [.ref p, .int n1, .int n2] w = rv_GO rc_X4_when 0 [some (.ref p), some (.int n1), some (.int n2), none] [] w := by
    show cond ((rv_obj w p 3).isSome && true) _ _ = _
    rw [hp]
    rfl
  rw [e, ← rv_blk_eq [] 27]
  rfl
set_option maxRecDepth 100000 in
set_option maxHeartbeats 4000000 in
theorem ev_X4_cold (p : Nat) (n1 : Int32) (n2 : Int32) (w : rv_W) (hp : (rv_obj w p 3).isSome = true) : rv_EV 65 [.ref p, .int n1, .int n2] w = ((rv_ri (rv_EV 97 [.int n1] w)).bind fun q1 => (bif rv_cnd .eq q1.1 0 then ((rv_ri (rv_EV 95 [.ref p, .int 0] q1.2)).bind fun q2 => some (some (.int q2.1), q2.2)) else ((rv_ri (rv_EV 96 [.int n2, .int 99] q1.2)).bind fun q3 => (bif rv_cnd .ne q3.1 0 then ((rv_ldFR q3.2 p 3 2).bind fun a4 => ((rv_ldFR q3.2 p 3 0).bind fun a5 => ((rv_rv (rv_EV 9 [.ref a4, .ref a5] q3.2)).bind fun q6 => rv_GO rc_X4_cold 35 [some (.ref p), some (.int n1), some (.int n2), some (.int 0)] [] q6))) else ((rv_ri (rv_EV 95 [.ref p, .int 0] q3.2)).bind fun q7 => some (some (.int q7.1), q7.2)))))) := by
  have e : rv_EV 65 [.ref p, .int n1, .int n2] w = rv_GO rc_X4_cold 0 [some (.ref p), some (.int n1), some (.int n2), none] [] w := by
    show cond ((rv_obj w p 3).isSome && true) _ _ = _
    rw [hp]
    rfl
  rw [e, ← rv_blk_eq [35] 16]
  rfl
set_option maxRecDepth 100000 in
set_option maxHeartbeats 4000000 in
theorem bk_X4_cold_35 (v0 : Nat) (v1 : Int32) (v2 : Int32) (v3 : Int32) (w : rv_W) : rv_GO rc_X4_cold 35 [some (.ref v0), some (.int v1), some (.int v2), some (.int v3)] [] w = (bif rv_cnd .gt v3 60 then ((rv_ri (rv_EV 95 [.ref v0, .int 3] w)).bind fun q1 => some (some (.int q1.1), q1.2)) else ((rv_ldFR w v0 3 2).bind fun a2 => ((rv_ldFR w a2 1 0).bind fun a3 => ((rv_ldI w a3 v1).bind fun x4 => (bif rv_cnd .ge x4 v2 then ((rv_ldFR w v0 3 2).bind fun a5 => ((rv_rv (rv_EV 21 [.ref a5] w)).bind fun q6 => rv_GO rc_X4_cold 35 [some (.ref v0), some (.int v1), some (.int v2), some (.int (v3 + 1))] [] q6)) else some (some (.int v3), w)))))) := by
  rw [← rv_blk_eq [35] 17]
  rfl
set_option maxRecDepth 100000 in
set_option maxHeartbeats 4000000 in
theorem ev_X4_left (p : Nat) (n1 : Int32) (n2 : Int32) (w : rv_W) (hp : (rv_obj w p 3).isSome = true) : rv_EV 66 [.ref p, .int n1, .int n2] w = ((rv_ri (rv_EV 96 [.int n1, .int 9999] w)).bind fun q1 => (bif rv_cnd .eq q1.1 0 then ((rv_ri (rv_EV 95 [.ref p, .int 0] q1.2)).bind fun q2 => some (some (.int q2.1), q2.2)) else ((rv_ri (rv_EV 96 [.int n2, .int 9] q1.2)).bind fun q3 => (bif rv_cnd .ne q3.1 0 then rv_GO rc_X4_left 30 [none, none, some (.int n2), some (.int n1), some (.int 0)] [] q3.2 else ((rv_ri (rv_EV 95 [.ref p, .int 0] q3.2)).bind fun q4 => some (some (.int q4.1), q4.2)))))) := by
  have e : rv_EV 66 [.ref p, .int n1, .int n2] w = rv_GO rc_X4_left 0 [some (.ref p), some (.int n1), some (.int n2), none, none] [] w := by
    show cond ((rv_obj w p 3).isSome && true) _ _ = _
    rw [hp]
    rfl
  rw [e, ← rv_blk_eq [30] 14]
  rfl
set_option maxRecDepth 100000 in
set_option maxHeartbeats 4000000 in
theorem bk_X4_left_30 (v2 : Int32) (v3 : Int32) (v4 : Int32) (w : rv_W) : rv_GO rc_X4_left 30 [none, none, some (.int v2), some (.int v3), some (.int v4)] [] w = (bif rv_cnd .ge v4 v2 then some (some (.int v3), w) else ((rv_ri (rv_EV 22 [.int v3] w)).bind fun q1 => rv_GO rc_X4_left 30 [none, none, some (.int v2), some (.int q1.1), some (.int (v4 + 1))] [] q1.2)) := by
  rw [← rv_blk_eq [30] 10]
  rfl
set_option maxRecDepth 100000 in
set_option maxHeartbeats 4000000 in
theorem ev_X4_needed (p : Nat) (n1 : Int32) (n2 : Int32) (w : rv_W) (hp : (rv_obj w p 3).isSome = true) : rv_EV 67 [.ref p, .int n1, .int n2] w = ((rv_ri (rv_EV 96 [.int n1, .int 500] w)).bind fun q1 => (bif rv_cnd .eq q1.1 0 then ((rv_ri (rv_EV 95 [.ref p, .int 0] q1.2)).bind fun q2 => some (some (.int q2.1), q2.2)) else ((rv_ri (rv_EV 96 [.int n2, .int 9] q1.2)).bind fun q3 => (bif rv_cnd .ne q3.1 0 then rv_GO rc_X4_needed 30 [some (.ref p), none, some (.int n2), some (.int n1), some (.int 0)] [] q3.2 else ((rv_ri (rv_EV 95 [.ref p, .int 0] q3.2)).bind fun q4 => some (some (.int q4.1), q4.2)))))) := by
  have e : rv_EV 67 [.ref p, .int n1, .int n2] w = rv_GO rc_X4_needed 0 [some (.ref p), some (.int n1), some (.int n2), none, none] [] w := by
    show cond ((rv_obj w p 3).isSome && true) _ _ = _
    rw [hp]
    rfl
  rw [e, ← rv_blk_eq [30] 14]
  rfl
set_option maxRecDepth 100000 in
set_option maxHeartbeats 4000000 in
theorem bk_X4_needed_30 (v0 : Nat) (v2 : Int32) (v3 : Int32) (v4 : Int32) (w : rv_W) : rv_GO rc_X4_needed 30 [some (.ref v0), none, some (.int v2), some (.int v3), some (.int v4)] [] w = (bif rv_cnd .ge v4 v2 then (bif rv_cnd .le v3 9999 then some (some (.int v3), w) else ((rv_ri (rv_EV 95 [.ref v0, .int 3] w)).bind fun q1 => some (some (.int q1.1), q1.2))) else (bif rv_eq 3 0 then none else rv_GO rc_X4_needed 30 [some (.ref v0), none, some (.int v2), some (.int (((4 * v3) + 2) / 3)), some (.int (v4 + 1))] [] w)) := by
  rw [← rv_blk_eq [30] 15]
  rfl
set_option maxRecDepth 100000 in
set_option maxHeartbeats 4000000 in
theorem ev_X4_swapFor (p : Nat) (n1 : Int32) (n2 : Int32) (w : rv_W) (hp : (rv_obj w p 3).isSome = true) : rv_EV 68 [.ref p, .int n1, .int n2] w = ((rv_ldFR w p 3 0).bind fun a1 => ((rv_ri (rv_EV 10 [.ref a1, .int n1] w)).bind fun q2 => (bif rv_cnd .eq q2.1 0 then ((rv_ri (rv_EV 95 [.ref p, .int 0] q2.2)).bind fun q3 => some (some (.int q3.1), q3.2)) else ((rv_ri (rv_EV 96 [.int n2, .int 40] q2.2)).bind fun q4 => (bif rv_cnd .ne q4.1 0 then rv_GO rc_X4_swapFor 34 [some (.ref p), some (.int n1), some (.int n2), some (.int (-1)), some (.int (-1)), some (.int 0), none] [] q4.2 else ((rv_ri (rv_EV 95 [.ref p, .int 0] q4.2)).bind fun q5 => some (some (.int q5.1), q5.2))))))) := by
  have e : rv_EV 68 [.ref p, .int n1, .int n2] w = rv_GO rc_X4_swapFor 0 [some (.ref p), some (.int n1), some (.int n2), none, none, none, none] [] w := by
    show cond ((rv_obj w p 3).isSome && true) _ _ = _
    rw [hp]
    rfl
  rw [e, ← rv_blk_eq [34] 17]
  rfl
set_option maxRecDepth 100000 in
set_option maxHeartbeats 4000000 in
theorem bk_X4_swapFor_34 (v0 : Nat) (v1 : Int32) (v2 : Int32) (v3 : Int32) (v4 : Int32) (v5 : Int32) (w : rv_W) : rv_GO rc_X4_swapFor 34 [some (.ref v0), some (.int v1), some (.int v2), some (.int v3), some (.int v4), some (.int v5), none] [] w = ((rv_ldFR w v0 3 0).bind fun a1 => ((rv_ldFI w a1 1 7).bind fun x2 => (bif rv_cnd .ge v5 x2 then (bif rv_cnd .ne v3 (-1) then some (some (.int v3), w) else ((rv_ri (rv_EV 95 [.ref v0, .int 3] w)).bind fun q3 => some (some (.int q3.1), q3.2))) else (bif rv_cnd .ne v5 v1 then ((rv_ldFR w v0 3 2).bind fun a4 => ((rv_ldFR w v0 3 0).bind fun a5 => ((rv_rv (rv_EV 9 [.ref a4, .ref a5] w)).bind fun q6 => ((rv_ldFR q6 v0 3 2).bind fun a7 => ((rv_rv (rv_EV 14 [.ref a7, .int v1, .int v5] q6)).bind fun q8 => ((rv_ldFR q8 v0 3 2).bind fun a9 => ((rv_rv (rv_EV 20 [.ref a9, .int v2] q8)).bind fun q10 => ((rv_ldFR q10 v0 3 2).bind fun a11 => ((rv_ldFR q10 a11 1 5).bind fun a12 => ((rv_ldI q10 a12 v1).bind fun x13 => ((rv_ri (rv_EV 209 [.int x13] q10)).bind fun q14 => (bif rv_cnd .le q14.1 v4 then rv_GO rc_X4_swapFor 34 [some (.ref v0), some (.int v1), some (.int v2), some (.int v3), some (.int v4), some (.int (v5 + 1)), none] [] q14.2 else rv_GO rc_X4_swapFor 34 [some (.ref v0), some (.int v1), some (.int v2), some (.int v5), some (.int q14.1), some (.int (v5 + 1)), none] [] q14.2)))))))))))) else rv_GO rc_X4_swapFor 34 [some (.ref v0), some (.int v1), some (.int v2), some (.int v3), some (.int v4), some (.int (v5 + 1)), none] [] w)))) := by
  rw [← rv_blk_eq [34] 40]
  rfl
set_option maxRecDepth 100000 in
set_option maxHeartbeats 4000000 in
theorem ev_X4_seat (p : Nat) (n1 : Int32) (n2 : Int32) (w : rv_W) (hp : (rv_obj w p 3).isSome = true) : rv_EV 69 [.ref p, .int n1, .int n2] w = ((rv_ldFR w p 3 0).bind fun a1 => ((rv_ri (rv_EV 10 [.ref a1, .int n1] w)).bind fun q2 => (bif rv_cnd .eq q2.1 0 then ((rv_ri (rv_EV 95 [.ref p, .int 0] q2.2)).bind fun q3 => some (some (.int q3.1), q3.2)) else ((rv_ri (rv_EV 98 [.int n2] q2.2)).bind fun q4 => (bif rv_cnd .ne q4.1 0 then rv_GO rc_X4_seat 33 [some (.ref p), some (.int n1), some (.int n2), some (.int (-1)), some (.int 61), some (.int 0), none] [] q4.2 else ((rv_ri (rv_EV 95 [.ref p, .int 0] q4.2)).bind fun q5 => some (some (.int q5.1), q5.2))))))) := by
  have e : rv_EV 69 [.ref p, .int n1, .int n2] w = rv_GO rc_X4_seat 0 [some (.ref p), some (.int n1), some (.int n2), none, none, none, none] [] w := by
    show cond ((rv_obj w p 3).isSome && true) _ _ = _
    rw [hp]
    rfl
  rw [e, ← rv_blk_eq [33] 16]
  rfl
set_option maxRecDepth 100000 in
set_option maxHeartbeats 4000000 in
theorem bk_X4_seat_33 (v0 : Nat) (v1 : Int32) (v2 : Int32) (v3 : Int32) (v4 : Int32) (v5 : Int32) (w : rv_W) : rv_GO rc_X4_seat 33 [some (.ref v0), some (.int v1), some (.int v2), some (.int v3), some (.int v4), some (.int v5), none] [] w = (bif rv_cnd .ge v5 10 then (bif rv_cnd .ge v3 0 then some (some (.int v3), w) else ((rv_ri (rv_EV 95 [.ref v0, .int 3] w)).bind fun q1 => some (some (.int q1.1), q1.2))) else ((rv_ldFR w v0 3 2).bind fun a2 => ((rv_ldFR w v0 3 0).bind fun a3 => ((rv_rv (rv_EV 9 [.ref a2, .ref a3] w)).bind fun q4 => ((rv_ldFR q4 v0 3 2).bind fun a5 => ((rv_ldFR q4 a5 1 3).bind fun a6 => ((rv_stI q4 a6 v1 v5).bind fun w7 => ((rv_ri (rv_EV 104 [.ref v0, .int v1, .int v2, .int (v4 - 1)] w7)).bind fun q8 => (bif rv_cnd .lt q8.1 0 then rv_GO rc_X4_seat 33 [some (.ref v0), some (.int v1), some (.int v2), some (.int v3), some (.int v4), some (.int (v5 + 1)), none] [] q8.2 else rv_GO rc_X4_seat 33 [some (.ref v0), some (.int v1), some (.int v2), some (.int v5), some (.int q8.1), some (.int (v5 + 1)), none] [] q8.2))))))))) := by
  rw [← rv_blk_eq [33] 32]
  rfl
set_option maxRecDepth 100000 in
set_option maxHeartbeats 4000000 in
theorem ev_X4_kindFor (p : Nat) (n1 : Int32) (n2 : Int32) (w : rv_W) (hp : (rv_obj w p 3).isSome = true) : rv_EV 70 [.ref p, .int n1, .int n2] w = ((rv_ldFR w p 3 0).bind fun a1 => ((rv_ri (rv_EV 10 [.ref a1, .int n1] w)).bind fun q2 => (bif rv_cnd .eq q2.1 0 then ((rv_ri (rv_EV 95 [.ref p, .int 0] q2.2)).bind fun q3 => some (some (.int q3.1), q3.2)) else ((rv_ri (rv_EV 96 [.int n2, .int 40] q2.2)).bind fun q4 => (bif rv_cnd .ne q4.1 0 then rv_GO rc_X4_kindFor 34 [some (.ref p), some (.int n1), some (.int n2), some (.int 0), some (.int (-1)), some (.int 0), none] [] q4.2 else ((rv_ri (rv_EV 95 [.ref p, .int 0] q4.2)).bind fun q5 => some (some (.int q5.1), q5.2))))))) := by
  have e : rv_EV 70 [.ref p, .int n1, .int n2] w = rv_GO rc_X4_kindFor 0 [some (.ref p), some (.int n1), some (.int n2), none, none, none, none] [] w := by
    show cond ((rv_obj w p 3).isSome && true) _ _ = _
    rw [hp]
    rfl
  rw [e, ← rv_blk_eq [34] 17]
  rfl
set_option maxRecDepth 100000 in
set_option maxHeartbeats 4000000 in
theorem bk_X4_kindFor_34 (v0 : Nat) (v1 : Int32) (v2 : Int32) (v3 : Int32) (v4 : Int32) (v5 : Int32) (w : rv_W) : rv_GO rc_X4_kindFor 34 [some (.ref v0), some (.int v1), some (.int v2), some (.int v3), some (.int v4), some (.int v5), none] [] w = (bif rv_cnd .ge v5 7 then some (some (.int v3), w) else ((rv_ldFR w v0 3 2).bind fun a1 => ((rv_ldFR w v0 3 0).bind fun a2 => ((rv_rv (rv_EV 9 [.ref a1, .ref a2] w)).bind fun q3 => ((rv_ldFR q3 v0 3 2).bind fun a4 => ((rv_ldFR q3 a4 1 2).bind fun a5 => ((rv_stI q3 a5 v1 v5).bind fun w6 => ((rv_ldFR w6 v0 3 2).bind fun a7 => ((rv_rv (rv_EV 20 [.ref a7, .int v2] w6)).bind fun q8 => ((rv_ldFR q8 v0 3 2).bind fun a9 => ((rv_ldFR q8 a9 1 5).bind fun a10 => ((rv_ldI q8 a10 v1).bind fun x11 => ((rv_ri (rv_EV 209 [.int x11] q8)).bind fun q12 => (bif rv_cnd .le q12.1 v4 then rv_GO rc_X4_kindFor 34 [some (.ref v0), some (.int v1), some (.int v2), some (.int v3), some (.int v4), some (.int (v5 + 1)), none] [] q12.2 else rv_GO rc_X4_kindFor 34 [some (.ref v0), some (.int v1), some (.int v2), some (.int v5), some (.int q12.1), some (.int (v5 + 1)), none] [] q12.2)))))))))))))) := by
  rw [← rv_blk_eq [34] 36]
  rfl
set_option maxRecDepth 100000 in
set_option maxHeartbeats 4000000 in
theorem ev_X4_freshFor (p : Nat) (n1 : Int32) (n2 : Int32) (w : rv_W) (hp : (rv_obj w p 3).isSome = true) : rv_EV 71 [.ref p, .int n1, .int n2] w = ((rv_ri (rv_EV 96 [.int n1, .int 99] w)).bind fun q1 => (bif rv_cnd .eq q1.1 0 then ((rv_ri (rv_EV 95 [.ref p, .int 0] q1.2)).bind fun q2 => some (some (.int q2.1), q2.2)) else ((rv_ri (rv_EV 96 [.int n2, .int 40] q1.2)).bind fun q3 => (bif rv_cnd .ne q3.1 0 then rv_GO rc_X4_freshFor 26 [some (.ref p), some (.int n1), some (.int n2), some (.int 0)] [] q3.2 else ((rv_ri (rv_EV 95 [.ref p, .int 0] q3.2)).bind fun q4 => some (some (.int q4.1), q4.2)))))) := by
  have e : rv_EV 71 [.ref p, .int n1, .int n2] w = rv_GO rc_X4_freshFor 0 [some (.ref p), some (.int n1), some (.int n2), none] [] w := by
    show cond ((rv_obj w p 3).isSome && true) _ _ = _
    rw [hp]
    rfl
  rw [e, ← rv_blk_eq [26] 13]
  rfl
set_option maxRecDepth 100000 in
set_option maxHeartbeats 4000000 in
theorem bk_X4_freshFor_26 (v0 : Nat) (v1 : Int32) (v2 : Int32) (v3 : Int32) (w : rv_W) : rv_GO rc_X4_freshFor 26 [some (.ref v0), some (.int v1), some (.int v2), some (.int v3)] [] w = (bif rv_cnd .gt v3 99 then ((rv_ri (rv_EV 95 [.ref v0, .int 3] w)).bind fun q1 => some (some (.int q1.1), q1.2)) else ((rv_ldFR w v0 3 2).bind fun a2 => ((rv_ldFR w v0 3 0).bind fun a3 => ((rv_rv (rv_EV 9 [.ref a2, .ref a3] w)).bind fun q4 => ((rv_ldFR q4 v0 3 2).bind fun a5 => ((rv_stF q4 a5 1 8 (.int v3)).bind fun w6 => ((rv_ldFR w6 v0 3 2).bind fun a7 => ((rv_rv (rv_EV 20 [.ref a7, .int v2] w6)).bind fun q8 => ((rv_ldFR q8 v0 3 2).bind fun a9 => ((rv_ri (rv_EV 33 [.ref a9, .int v1] q8)).bind fun q10 => (bif rv_cnd .ne q10.1 0 then rv_GO rc_X4_freshFor 26 [some (.ref v0), some (.int v1), some (.int v2), some (.int (v3 + 1))] [] q10.2 else some (some (.int v3), q10.2)))))))))))) := by
  rw [← rv_blk_eq [26] 25]
  rfl
set_option maxRecDepth 100000 in
set_option maxHeartbeats 4000000 in
theorem ev_X4_hides (p : Nat) (n1 : Int32) (n2 : Int32) (n3 : Int32) (n4 : Int32) (w : rv_W) (hp : (rv_obj w p 3).isSome = true) : rv_EV 72 [.ref p, .int n1, .int n2, .int n3, .int n4] w = ((rv_ri (rv_EV 97 [.int n1] w)).bind fun q1 => (bif rv_cnd .eq q1.1 0 then ((rv_ri (rv_EV 95 [.ref p, .int 0] q1.2)).bind fun q2 => some (some (.int q2.1), q2.2)) else ((rv_ri (rv_EV 98 [.int n2] q1.2)).bind fun q3 => (bif rv_cnd .eq q3.1 0 then ((rv_ri (rv_EV 95 [.ref p, .int 0] q3.2)).bind fun q4 => some (some (.int q4.1), q4.2)) else ((rv_ri (rv_EV 98 [.int n3] q3.2)).bind fun q5 => (bif rv_cnd .eq q5.1 0 then ((rv_ri (rv_EV 95 [.ref p, .int 0] q5.2)).bind fun q6 => some (some (.int q6.1), q6.2)) else ((rv_ri (rv_EV 96 [.int n4, .int 20] q5.2)).bind fun q7 => (bif rv_cnd .eq q7.1 0 then ((rv_ri (rv_EV 95 [.ref p, .int 0] q7.2)).bind fun q8 => some (some (.int q8.1), q8.2)) else (bif rv_cnd .ne n2 n3 then ((rv_ldFR q7.2 p 3 0).bind fun a9 => ((rv_ri (rv_EV 15 [.ref a9, .int n1, .int n2] q7.2)).bind fun q10 => rv_GO rc_X4_hides 56 [some (.ref p), some (.int n1), some (.int n2), some (.int n3), some (.int n4), some (.int q10.1), some (.int 0)] [] q10.2)) else ((rv_ri (rv_EV 95 [.ref p, .int 0] q7.2)).bind fun q11 => some (some (.int q11.1), q11.2))))))))))) := by
  have e : rv_EV 72 [.ref p, .int n1, .int n2, .int n3, .int n4] w = rv_GO rc_X4_hides 0 [some (.ref p), some (.int n1), some (.int n2), some (.int n3), some (.int n4), none, none] [] w := by
    show cond ((rv_obj w p 3).isSome && true) _ _ = _
    rw [hp]
    rfl
  rw [e, ← rv_blk_eq [56] 26]
  rfl
set_option maxRecDepth 100000 in
set_option maxHeartbeats 4000000 in
theorem bk_X4_hides_56 (v0 : Nat) (v1 : Int32) (v2 : Int32) (v3 : Int32) (v4 : Int32) (v5 : Int32) (v6 : Int32) (w : rv_W) : rv_GO rc_X4_hides 56 [some (.ref v0), some (.int v1), some (.int v2), some (.int v3), some (.int v4), some (.int v5), some (.int v6)] [] w = (bif rv_cnd .gt (v5 + v6) 9999 then ((rv_ri (rv_EV 95 [.ref v0, .int 3] w)).bind fun q1 => some (some (.int q1.1), q1.2)) else ((rv_ldFR w v0 3 2).bind fun a2 => ((rv_ldFR w v0 3 0).bind fun a3 => ((rv_rv (rv_EV 9 [.ref a2, .ref a3] w)).bind fun q4 => ((rv_ldFR q4 v0 3 2).bind fun a5 => ((rv_rv (rv_EV 16 [.ref a5, .int v1, .int v2, .int (v5 + v6)] q4)).bind fun q6 => ((rv_ri (rv_EV 105 [.ref v0, .int v3, .int v4] q6)).bind fun q7 => (bif rv_cnd .ne q7.1 0 then rv_GO rc_X4_hides 56 [some (.ref v0), some (.int v1), some (.int v2), some (.int v3), some (.int v4), some (.int v5), some (.int (v6 + 10))] [] q7.2 else some (some (.int v6), q7.2))))))))) := by
  rw [← rv_blk_eq [56] 27]
  rfl
set_option maxRecDepth 100000 in
set_option maxHeartbeats 4000000 in
theorem ev_X4_leave (p : Nat) (n1 : Int32) (n2 : Int32) (w : rv_W) (hp : (rv_obj w p 3).isSome = true) : rv_EV 73 [.ref p, .int n1, .int n2] w = ((rv_ri (rv_EV 98 [.int n1] w)).bind fun q1 => (bif rv_cnd .eq q1.1 0 then ((rv_ri (rv_EV 95 [.ref p, .int 0] q1.2)).bind fun q2 => some (some (.int q2.1), q2.2)) else ((rv_ri (rv_EV 96 [.int n2, .int 20] q1.2)).bind fun q3 => (bif rv_cnd .ne q3.1 0 then ((rv_ldFR q3.2 p 3 0).bind fun a4 => ((rv_ldFI q3.2 a4 1 7).bind fun x5 => rv_GO rc_X4_leave 40 [some (.ref p), some (.int n1), some (.int n2), some (.int ((1 <<< (x5 &&& 31)) - 1)), some (.int ((1 <<< (x5 &&& 31)) - 1)), some (.int 0)] [] q3.2)) else ((rv_ri (rv_EV 95 [.ref p, .int 0] q3.2)).bind fun q6 => some (some (.int q6.1), q6.2)))))) := by
  have e : rv_EV 73 [.ref p, .int n1, .int n2] w = rv_GO rc_X4_leave 0 [some (.ref p), some (.int n1), some (.int n2), none, none, none] [] w := by
    show cond ((rv_obj w p 3).isSome && true) _ _ = _
    rw [hp]
    rfl
  rw [e, ← rv_blk_eq [40] 21]
  rfl
set_option maxRecDepth 100000 in
set_option maxHeartbeats 4000000 in
theorem bk_X4_leave_40 (v0 : Nat) (v1 : Int32) (v2 : Int32) (v3 : Int32) (v4 : Int32) (v5 : Int32) (w : rv_W) : rv_GO rc_X4_leave 40 [some (.ref v0), some (.int v1), some (.int v2), some (.int v3), some (.int v4), some (.int v5)] [] w = (bif rv_cnd .ge v5 v3 then some (some (.int v4), w) else ((rv_ri (rv_EV 209 [.int v5] w)).bind fun q1 => ((rv_ri (rv_EV 209 [.int v4] q1.2)).bind fun q2 => (bif rv_cnd .lt q1.1 q2.1 then ((rv_ldFR q2.2 v0 3 2).bind fun a3 => ((rv_ldFR q2.2 v0 3 0).bind fun a4 => ((rv_rv (rv_EV 9 [.ref a3, .ref a4] q2.2)).bind fun q5 => ((rv_ldFR q5 v0 3 2).bind fun a6 => ((rv_stF q5 a6 1 11 (.int v5)).bind fun w7 => ((rv_ri (rv_EV 105 [.ref v0, .int v1, .int v2] w7)).bind fun q8 => (bif rv_cnd .ne q8.1 0 then rv_GO rc_X4_leave 40 [some (.ref v0), some (.int v1), some (.int v2), some (.int v3), some (.int v4), some (.int (v5 + 1))] [] q8.2 else rv_GO rc_X4_leave 40 [some (.ref v0), some (.int v1), some (.int v2), some (.int v3), some (.int v5), some (.int (v5 + 1))] [] q8.2))))))) else rv_GO rc_X4_leave 40 [some (.ref v0), some (.int v1), some (.int v2), some (.int v3), some (.int v4), some (.int (v5 + 1))] [] q2.2)))) := by
  rw [← rv_blk_eq [40] 28]
  rfl
set_option maxRecDepth 100000 in
set_option maxHeartbeats 4000000 in
theorem ev_X4_plugFor (p : Nat) (n1 : Int32) (n2 : Int32) (w : rv_W) (hp : (rv_obj w p 3).isSome = true) : rv_EV 74 [.ref p, .int n1, .int n2] w = ((rv_ri (rv_EV 98 [.int n1] w)).bind fun q1 => (bif rv_cnd .eq q1.1 0 then ((rv_ri (rv_EV 95 [.ref p, .int 0] q1.2)).bind fun q2 => some (some (.int q2.1), q2.2)) else ((rv_ri (rv_EV 96 [.int n2, .int 40] q1.2)).bind fun q3 => (bif rv_cnd .ne q3.1 0 then rv_GO rc_X4_plugFor 31 [some (.ref p), some (.int n1), some (.int n2), some (.int 0), some (.int 9), some (.int 0), none] [] q3.2 else ((rv_ri (rv_EV 95 [.ref p, .int 0] q3.2)).bind fun q4 => some (some (.int q4.1), q4.2)))))) := by
  have e : rv_EV 74 [.ref p, .int n1, .int n2] w = rv_GO rc_X4_plugFor 0 [some (.ref p), some (.int n1), some (.int n2), none, none, none, none] [] w := by
    show cond ((rv_obj w p 3).isSome && true) _ _ = _
    rw [hp]
    rfl
  rw [e, ← rv_blk_eq [31] 15]
  rfl
set_option maxRecDepth 100000 in
set_option maxHeartbeats 4000000 in
theorem bk_X4_plugFor_31 (v0 : Nat) (v1 : Int32) (v2 : Int32) (v3 : Int32) (v4 : Int32) (v5 : Int32) (w : rv_W) : rv_GO rc_X4_plugFor 31 [some (.ref v0), some (.int v1), some (.int v2), some (.int v3), some (.int v4), some (.int v5), none] [] w = (bif rv_cnd .ge v5 10 then some (some (.int v3), w) else ((rv_ldFR w v0 3 2).bind fun a1 => ((rv_ldFR w v0 3 0).bind fun a2 => ((rv_rv (rv_EV 9 [.ref a1, .ref a2] w)).bind fun q3 => ((rv_ldFR q3 v0 3 2).bind fun a4 => ((rv_rv (rv_EV 18 [.ref a4, .int v5] q3)).bind fun q5 => ((rv_ldFR q5 v0 3 2).bind fun a6 => ((rv_rv (rv_EV 20 [.ref a6, .int v2] q5)).bind fun q7 => ((rv_ldFR q7 v0 3 2).bind fun a8 => ((rv_ri (rv_EV 29 [.ref a8, .int v1] q7)).bind fun q9 => ((rv_ri (rv_EV 209 [.int q9.1] q9.2)).bind fun q10 => (bif rv_cnd .ge q10.1 v4 then rv_GO rc_X4_plugFor 31 [some (.ref v0), some (.int v1), some (.int v2), some (.int v3), some (.int v4), some (.int (v5 + 1)), none] [] q10.2 else rv_GO rc_X4_plugFor 31 [some (.ref v0), some (.int v1), some (.int v2), some (.int v5), some (.int q10.1), some (.int (v5 + 1)), none] [] q10.2)))))))))))) := by
  rw [← rv_blk_eq [31] 33]
  rfl
set_option maxRecDepth 100000 in
set_option maxHeartbeats 4000000 in
theorem ev_X4_fits (p : Nat) (n1 : Int32) (n2 : Int32) (w : rv_W) (hp : (rv_obj w p 3).isSome = true) : rv_EV 75 [.ref p, .int n1, .int n2] w = ((rv_ri (rv_EV 103 [.ref p, .int n1] w)).bind fun q1 => (bif rv_cnd .eq q1.1 (-1) then ((rv_ldFR q1.2 p 3 0).bind fun a2 => ((rv_ri (rv_EV 10 [.ref a2, .int n2] q1.2)).bind fun q3 => (bif rv_cnd .ne q3.1 0 then rv_GO rc_X4_fits 40 [some (.ref p), some (.int n1), some (.int n2), none, some (.int 0), some (.int 0)] [] q3.2 else ((rv_ri (rv_EV 95 [.ref p, .int 0] q3.2)).bind fun q4 => some (some (.int q4.1), q4.2))))) else ((rv_ri (rv_EV 95 [.ref p, .int q1.1] q1.2)).bind fun q5 => some (some (.int q5.1), q5.2)))) := by
  have e : rv_EV 75 [.ref p, .int n1, .int n2] w = rv_GO rc_X4_fits 0 [some (.ref p), some (.int n1), some (.int n2), none, none, none] [] w := by
    show cond ((rv_obj w p 3).isSome && true) _ _ = _
    rw [hp]
    rfl
  rw [e, ← rv_blk_eq [40] 18]
  rfl
set_option maxRecDepth 100000 in
set_option maxHeartbeats 4000000 in
theorem bk_X4_fits_40 (v0 : Nat) (v1 : Int32) (v2 : Int32) (v4 : Int32) (v5 : Int32) (w : rv_W) : rv_GO rc_X4_fits 40 [some (.ref v0), some (.int v1), some (.int v2), none, some (.int v4), some (.int v5)] [] w = (bif rv_cnd .ge v5 4 then some (some (.int v4), w) else ((rv_ldFR w v0 3 2).bind fun a1 => ((rv_ldFR w v0 3 0).bind fun a2 => ((rv_rv (rv_EV 9 [.ref a1, .ref a2] w)).bind fun q3 => ((rv_ldFR q3 v0 3 2).bind fun a4 => ((rv_ldFR q3 a4 1 4).bind fun a5 => ((rv_stI q3 a5 v2 v5).bind fun w6 => ((rv_ldFR w6 v0 3 3).bind fun a7 => ((rv_ldQ w6 a7 v1).bind fun a8 => ((rv_ri (rv_EV 106 [.ref v0, .ref a8] w6)).bind fun q9 => (bif rv_cnd .eq q9.1 0 then rv_GO rc_X4_fits 40 [some (.ref v0), some (.int v1), some (.int v2), none, some (.int v4), some (.int (v5 + 1))] [] q9.2 else rv_GO rc_X4_fits 40 [some (.ref v0), some (.int v1), some (.int v2), none, some (.int (v4 ||| (1 <<< (v5 &&& 31)))), some (.int (v5 + 1))] [] q9.2))))))))))) := by
  rw [← rv_blk_eq [40] 31]
  rfl
set_option maxRecDepth 100000 in
set_option maxHeartbeats 4000000 in
theorem ev_X4_kinds (p : Nat) (n1 : Int32) (n2 : Int32) (w : rv_W) (hp : (rv_obj w p 3).isSome = true) : rv_EV 76 [.ref p, .int n1, .int n2] w = ((rv_ri (rv_EV 103 [.ref p, .int n1] w)).bind fun q1 => (bif rv_cnd .eq q1.1 (-1) then ((rv_ldFR q1.2 p 3 0).bind fun a2 => ((rv_ri (rv_EV 10 [.ref a2, .int n2] q1.2)).bind fun q3 => (bif rv_cnd .ne q3.1 0 then rv_GO rc_X4_kinds 40 [some (.ref p), some (.int n1), some (.int n2), none, some (.int 0), some (.int 0)] [] q3.2 else ((rv_ri (rv_EV 95 [.ref p, .int 0] q3.2)).bind fun q4 => some (some (.int q4.1), q4.2))))) else ((rv_ri (rv_EV 95 [.ref p, .int q1.1] q1.2)).bind fun q5 => some (some (.int q5.1), q5.2)))) := by
  have e : rv_EV 76 [.ref p, .int n1, .int n2] w = rv_GO rc_X4_kinds 0 [some (.ref p), some (.int n1), some (.int n2), none, none, none] [] w := by
    show cond ((rv_obj w p 3).isSome && true) _ _ = _
    rw [hp]
    rfl
  rw [e, ← rv_blk_eq [40] 18]
  rfl
set_option maxRecDepth 100000 in
set_option maxHeartbeats 4000000 in
theorem bk_X4_kinds_40 (v0 : Nat) (v1 : Int32) (v2 : Int32) (v4 : Int32) (v5 : Int32) (w : rv_W) : rv_GO rc_X4_kinds 40 [some (.ref v0), some (.int v1), some (.int v2), none, some (.int v4), some (.int v5)] [] w = (bif rv_cnd .ge v5 7 then some (some (.int v4), w) else ((rv_ldFR w v0 3 2).bind fun a1 => ((rv_ldFR w v0 3 0).bind fun a2 => ((rv_rv (rv_EV 9 [.ref a1, .ref a2] w)).bind fun q3 => ((rv_ldFR q3 v0 3 2).bind fun a4 => ((rv_ldFR q3 a4 1 2).bind fun a5 => ((rv_stI q3 a5 v2 v5).bind fun w6 => ((rv_ldFR w6 v0 3 3).bind fun a7 => ((rv_ldQ w6 a7 v1).bind fun a8 => ((rv_ri (rv_EV 106 [.ref v0, .ref a8] w6)).bind fun q9 => (bif rv_cnd .eq q9.1 0 then rv_GO rc_X4_kinds 40 [some (.ref v0), some (.int v1), some (.int v2), none, some (.int v4), some (.int (v5 + 1))] [] q9.2 else rv_GO rc_X4_kinds 40 [some (.ref v0), some (.int v1), some (.int v2), none, some (.int (v4 ||| (1 <<< (v5 &&& 31)))), some (.int (v5 + 1))] [] q9.2))))))))))) := by
  rw [← rv_blk_eq [40] 31]
  rfl
set_option maxRecDepth 100000 in
set_option maxHeartbeats 4000000 in
theorem ev_X4_plugs (p : Nat) (n1 : Int32) (w : rv_W) (hp : (rv_obj w p 3).isSome = true) : rv_EV 77 [.ref p, .int n1] w = (bif rv_cnd .lt n1 1 then ((rv_ri (rv_EV 95 [.ref p, .int 0] w)).bind fun q1 => some (some (.int q1.1), q1.2)) else (bif rv_cnd .le n1 20 then ((rv_ldFR w p 3 0).bind fun a2 => ((rv_ldFI w a2 1 9).bind fun x3 => (bif rv_cnd .le x3 (99999 - n1) then rv_GO rc_X4_plugs 39 [some (.ref p), some (.int n1), some (.int 0)] [] w else ((rv_ri (rv_EV 95 [.ref p, .int 4] w)).bind fun q4 => some (some (.int q4.1), q4.2))))) else ((rv_ri (rv_EV 95 [.ref p, .int 0] w)).bind fun q5 => some (some (.int q5.1), q5.2)))) := by
  have e : rv_EV 77 [.ref p, .int n1] w = rv_GO rc_X4_plugs 0 [some (.ref p), some (.int n1), none] [] w := by
    show cond ((rv_obj w p 3).isSome && true) _ _ = _
    rw [hp]
    rfl
  rw [e, ← rv_blk_eq [39] 18]
  rfl
set_option maxRecDepth 100000 in
set_option maxHeartbeats 4000000 in
theorem bk_X4_plugs_39 (v0 : Nat) (v1 : Int32) (v2 : Int32) (w : rv_W) : rv_GO rc_X4_plugs 39 [some (.ref v0), some (.int v1), some (.int v2)] [] w = (bif rv_cnd .ge v2 v1 then ((rv_ldFR w v0 3 0).bind fun a1 => ((rv_ri (rv_EV 35 [.ref a1] w)).bind fun q2 => some (some (.int q2.1), q2.2))) else ((rv_ldFR w v0 3 0).bind fun a3 => ((rv_ldFR w v0 3 0).bind fun a4 => ((rv_ri (rv_EV 19 [.ref a4] w)).bind fun q5 => (bif rv_eq 10 0 then none else ((rv_rv (rv_EV 18 [.ref a3, .int (q5.1 - q5.1 / 10 * 10)] q5.2)).bind fun q6 => ((rv_ldFR q6 v0 3 0).bind fun a7 => ((rv_rv (rv_EV 21 [.ref a7] q6)).bind fun q8 => rv_GO rc_X4_plugs 39 [some (.ref v0), some (.int v1), some (.int (v2 + 1))] [] q8)))))))) := by
  rw [← rv_blk_eq [39] 18]
  rfl
set_option maxRecDepth 100000 in
set_option maxHeartbeats 4000000 in
theorem ev_X4_odds (p : Nat) (n1 : Int32) (n2 : Int32) (w : rv_W) (hp : (rv_obj w p 3).isSome = true) : rv_EV 78 [.ref p, .int n1, .int n2] w = ((rv_ri (rv_EV 96 [.int n1, .int 18] w)).bind fun q1 => (bif rv_cnd .eq q1.1 0 then ((rv_ri (rv_EV 95 [.ref p, .int 0] q1.2)).bind fun q2 => some (some (.long (Int32.toInt64 q2.1)), q2.2)) else ((rv_ri (rv_EV 96 [.int n2, .int 1] q1.2)).bind fun q3 => (bif rv_cnd .ne q3.1 0 then ((rv_ldFR q3.2 p 3 0).bind fun a4 => ((rv_ri (rv_EV 34 [.ref a4] q3.2)).bind fun q5 => ((rv_ri (rv_EV 102 [.int q5.1, .int 10] q5.2)).bind fun q6 => (bif rv_cnd .ne n2 0 then rv_GO rc_X4_odds 50 [none, some (.int n1), none, none, some (.int q6.1), none, none, none, none, none] [.int 10] q6.2 else rv_GO rc_X4_odds 50 [none, some (.int n1), none, none, some (.int q6.1), none, none, none, none, none] [.int q5.1] q6.2)))) else ((rv_ri (rv_EV 95 [.ref p, .int 0] q3.2)).bind fun q7 => some (some (.long (Int32.toInt64 q7.1)), q7.2)))))) := by
  have e : rv_EV 78 [.ref p, .int n1, .int n2] w = rv_GO rc_X4_odds 0 [some (.ref p), some (.int n1), some (.int n2), none, none, none, none, none, none, none] [] w := by
    show cond ((rv_obj w p 3).isSome && true) _ _ = _
    rw [hp]
    rfl
  rw [e, ← rv_blk_eq [50, 62] 22]
  rfl
set_option maxRecDepth 100000 in
set_option maxHeartbeats 4000000 in
theorem bk_X4_odds_50 (v1 : Int32) (v4 : Int32) (s0 : Int32) (w : rv_W) : rv_GO rc_X4_odds 50 [none, some (.int v1), none, none, some (.int v4), none, none, none, none, none] [.int s0] w = (bif rv_eq v4 0 then none else rv_GO rc_X4_odds 62 [none, some (.int v1), none, none, none, some (.long (Int32.toInt64 (s0 / v4))), none, some (.long (Int32.toInt64 1)), none, some (.int 0)] [] w) := by
  rw [← rv_blk_eq [50, 62] 10]
  rfl
set_option maxRecDepth 100000 in
set_option maxHeartbeats 4000000 in
theorem bk_X4_odds_62 (v1 : Int32) (v5 : Int64) (v7 : Int64) (v9 : Int32) (w : rv_W) : rv_GO rc_X4_odds 62 [none, some (.int v1), none, none, none, some (.long v5), none, some (.long v7), none, some (.int v9)] [] w = (bif rv_cnd .ge v9 v1 then some (some (.long v7), w) else rv_GO rc_X4_odds 62 [none, some (.int v1), none, none, none, some (.long v5), none, some (.long (v7 * v5)), none, some (.int (v9 + 1))] [] w) := by
  rw [← rv_blk_eq [50, 62] 11]
  rfl
set_option maxRecDepth 100000 in
set_option maxHeartbeats 4000000 in
theorem ev_X4_seed (p : Nat) (n1 : Int32) (w : rv_W) (hp : (rv_obj w p 3).isSome = true) : rv_EV 79 [.ref p, .int n1] w = ((rv_ldFR w p 3 0).bind fun a1 => ((rv_ldFI w a1 1 10).bind fun x2 => ((rv_ldFR w p 3 0).bind fun a3 => ((rv_stF w a3 1 10 (.int n1)).bind fun w4 => some (some (.int x2), w4))))) := by
  have e : rv_EV 79 [.ref p, .int n1] w = rv_GO rc_X4_seed 0 [some (.ref p), some (.int n1), none] [] w := by
    show cond ((rv_obj w p 3).isSome && true) _ _ = _
    rw [hp]
    rfl
  rw [e, ← rv_blk_eq [] 11]
  rfl
set_option maxRecDepth 100000 in
set_option maxHeartbeats 4000000 in
theorem ev_X4_feed (p : Nat) (n1 : Int32) (n2 : Int32) (w : rv_W) (hp : (rv_obj w p 3).isSome = true) : rv_EV 80 [.ref p, .int n1, .int n2] w = (bif rv_cnd .lt n2 1 then ((rv_ri (rv_EV 95 [.ref p, .int 0] w)).bind fun q1 => some (some (.int q1.1), q1.2)) else (bif rv_cnd .le n2 4 then ((rv_ldFI w p 3 7).bind fun x2 => (bif rv_cnd .le x2 (120 - n2) then rv_GO rc_X4_feed 37 [some (.ref p), some (.int n1), none, some (.int (n2 - 1))] [] w else ((rv_ri (rv_EV 95 [.ref p, .int 1] w)).bind fun q3 => some (some (.int q3.1), q3.2)))) else ((rv_ri (rv_EV 95 [.ref p, .int 0] w)).bind fun q4 => some (some (.int q4.1), q4.2)))) := by
  have e : rv_EV 80 [.ref p, .int n1, .int n2] w = rv_GO rc_X4_feed 0 [some (.ref p), some (.int n1), some (.int n2), none] [] w := by
    show cond ((rv_obj w p 3).isSome && true) _ _ = _
    rw [hp]
    rfl
  rw [e, ← rv_blk_eq [37] 18]
  rfl
set_option maxRecDepth 100000 in
set_option maxHeartbeats 4000000 in
theorem bk_X4_feed_37 (v0 : Nat) (v1 : Int32) (v3 : Int32) (w : rv_W) : rv_GO rc_X4_feed 37 [some (.ref v0), some (.int v1), none, some (.int v3)] [] w = (bif rv_cnd .lt v3 0 then ((rv_ldFI w v0 3 7).bind fun x1 => some (some (.int x1), w)) else ((rv_ldFR w v0 3 4).bind fun a2 => ((rv_ldFI w v0 3 7).bind fun x3 => ((rv_stB w a2 x3 (Int32.toUInt32 v1 >>> (Int32.toUInt32 (8 * v3) &&& Int32.toUInt32 31)).toInt32.toInt8.toInt32).bind fun w4 => ((rv_ldFI w4 v0 3 7).bind fun x5 => ((rv_stF w4 v0 3 7 (.int (x5 + 1))).bind fun w6 => rv_GO rc_X4_feed 37 [some (.ref v0), some (.int v1), none, some (.int (v3 + (-1)))] [] w6)))))) := by
  rw [← rv_blk_eq [37] 23]
  rfl
set_option maxRecDepth 100000 in
set_option maxHeartbeats 4000000 in
theorem ev_X4_wipe (p : Nat) (w : rv_W) (hp : (rv_obj w p 3).isSome = true) : rv_EV 81 [.ref p] w = ((rv_ldFI w p 3 7).bind fun x1 => ((rv_stF w p 3 7 (.int 0)).bind fun w2 => some (some (.int x1), w2))) := by
  have e : rv_EV 81 [.ref p] w = rv_GO rc_X4_wipe 0 [some (.ref p), none] [] w := by
    show cond ((rv_obj w p 3).isSome && true) _ _ = _
    rw [hp]
    rfl
  rw [e, ← rv_blk_eq [] 9]
  rfl
set_option maxRecDepth 100000 in
set_option maxHeartbeats 4000000 in
theorem ev_X4_text (p : Nat) (w : rv_W) (hp : (rv_obj w p 3).isSome = true) : rv_EV 82 [.ref p] w = ((rv_ldFR w p 3 2).bind fun a1 => ((rv_ldFR w p 3 0).bind fun a2 => ((rv_rv (rv_EV 9 [.ref a1, .ref a2] w)).bind fun q3 => ((rv_ldFR q3 p 3 5).bind fun a4 => ((rv_ldFR q3 p 3 4).bind fun a5 => ((rv_ldFI q3 p 3 7).bind fun x6 => ((rv_ldFR q3 p 3 2).bind fun a7 => ((rv_ri (rv_EV 38 [.ref a4, .ref a5, .int x6, .ref a7] q3)).bind fun q8 => ((rv_stF q8.2 p 3 7 (.int 0)).bind fun w9 => (bif rv_cnd .lt q8.1 0 then some (some (.int q8.1), w9) else ((rv_ldFR w9 p 3 0).bind fun a10 => ((rv_ldFR w9 p 3 2).bind fun a11 => ((rv_rv (rv_EV 9 [.ref a10, .ref a11] w9)).bind fun q12 => some (some (.int q8.1), q12)))))))))))))) := by
  have e : rv_EV 82 [.ref p] w = rv_GO rc_X4_text 0 [some (.ref p), none] [] w := by
    show cond ((rv_obj w p 3).isSome && true) _ _ = _
    rw [hp]
    rfl
  rw [e, ← rv_blk_eq [] 28]
  rfl
set_option maxRecDepth 100000 in
set_option maxHeartbeats 4000000 in
theorem ev_X4_hold (p : Nat) (n1 : Int32) (n2 : Int32) (w : rv_W) (hp : (rv_obj w p 3).isSome = true) : rv_EV 83 [.ref p, .int n1, .int n2] w = ((rv_ri (rv_EV 99 [.int n1] w)).bind fun q1 => (bif rv_cnd .eq q1.1 0 then ((rv_ri (rv_EV 95 [.ref p, .int 0] q1.2)).bind fun q2 => some (some (.int q2.1), q2.2)) else (bif rv_cnd .eq n2 (-1) then rv_GO rc_X4_hold 29 [some (.ref p), some (.int n1), some (.int n2)] [] q1.2 else ((rv_ldFR q1.2 p 3 0).bind fun a3 => ((rv_ri (rv_EV 10 [.ref a3, .int n2] q1.2)).bind fun q4 => (bif rv_cnd .ne q4.1 0 then rv_GO rc_X4_hold 29 [some (.ref p), some (.int n1), some (.int n2)] [] q4.2 else ((rv_ri (rv_EV 95 [.ref p, .int 0] q4.2)).bind fun q5 => some (some (.int q5.1), q5.2)))))))) := by
  have e : rv_EV 83 [.ref p, .int n1, .int n2] w = rv_GO rc_X4_hold 0 [some (.ref p), some (.int n1), some (.int n2)] [] w := by
    show cond ((rv_obj w p 3).isSome && true) _ _ = _
    rw [hp]
    rfl
  rw [e, ← rv_blk_eq [29] 16]
  rfl
set_option maxRecDepth 100000 in
set_option maxHeartbeats 4000000 in
theorem bk_X4_hold_29 (v0 : Nat) (v1 : Int32) (v2 : Int32) (w : rv_W) : rv_GO rc_X4_hold 29 [some (.ref v0), some (.int v1), some (.int v2)] [] w = ((rv_ldFR w v0 3 0).bind fun a1 => ((rv_ldFR w a1 1 6).bind fun a2 => ((rv_stI w a2 v1 v2).bind fun w3 => some (some (.int 1), w3)))) := by
  rw [← rv_blk_eq [29] 9]
  rfl
set_option maxRecDepth 100000 in
set_option maxHeartbeats 4000000 in
theorem ev_X4_as (p : Nat) (n1 : Int32) (n2 : Int32) (w : rv_W) (hp : (rv_obj w p 3).isSome = true) : rv_EV 84 [.ref p, .int n1, .int n2] w = ((rv_ri (rv_EV 99 [.int n1] w)).bind fun q1 => (bif rv_cnd .eq q1.1 0 then ((rv_ri (rv_EV 95 [.ref p, .int 0] q1.2)).bind fun q2 => some (some (.int q2.1), q2.2)) else ((rv_ri (rv_EV 0 [.int n2] q1.2)).bind fun q3 => (bif rv_cnd .ne q3.1 0 then ((rv_ldFR q3.2 p 3 0).bind fun a4 => ((rv_ldFR q3.2 a4 1 6).bind fun a5 => ((rv_ldI q3.2 a5 n1).bind fun x6 => ((rv_ldFR q3.2 p 3 0).bind fun a7 => ((rv_ri (rv_EV 10 [.ref a7, .int x6] q3.2)).bind fun q8 => (bif rv_cnd .ne q8.1 0 then ((rv_ldFR q8.2 p 3 0).bind fun a9 => ((rv_ldFR q8.2 a9 1 2).bind fun a10 => ((rv_ldI q8.2 a10 x6).bind fun x11 => ((rv_ri (rv_EV 1 [.int x11, .int n2] q8.2)).bind fun q12 => (bif rv_cnd .ne q12.1 0 then some (some (.int x6), q12.2) else ((rv_ri (rv_EV 95 [.ref p, .int 2] q12.2)).bind fun q13 => some (some (.int q13.1), q13.2))))))) else ((rv_ri (rv_EV 95 [.ref p, .int 5] q8.2)).bind fun q14 => some (some (.int q14.1), q14.2)))))))) else ((rv_ri (rv_EV 95 [.ref p, .int 0] q3.2)).bind fun q15 => some (some (.int q15.1), q15.2)))))) := by
  have e : rv_EV 84 [.ref p, .int n1, .int n2] w = rv_GO rc_X4_as 0 [some (.ref p), some (.int n1), some (.int n2), none] [] w := by
    show cond ((rv_obj w p 3).isSome && true) _ _ = _
    rw [hp]
    rfl
  rw [e, ← rv_blk_eq [] 30]
  rfl
set_option maxRecDepth 100000 in
set_option maxHeartbeats 4000000 in
theorem ev_X4_sheet (p : Nat) (n1 : Int32) (n2 : Int32) (n3 : Int32) (w : rv_W) (hp : (rv_obj w p 3).isSome = true) : rv_EV 85 [.ref p, .int n1, .int n2, .int n3] w = ((rv_ri (rv_EV 100 [.int n1] w)).bind fun q1 => (bif rv_cnd .eq q1.1 0 then ((rv_ri (rv_EV 95 [.ref p, .int 0] q1.2)).bind fun q2 => some (some (.int q2.1), q2.2)) else (bif rv_cnd .eq n2 0 then rv_GO rc_X4_sheet 35 [some (.ref p), some (.int n1), some (.int n2), some (.int n3)] [] q1.2 else (bif rv_cnd .eq n2 8 then rv_GO rc_X4_sheet 35 [some (.ref p), some (.int n1), some (.int n2), some (.int n3)] [] q1.2 else (bif rv_cnd .eq n2 16 then rv_GO rc_X4_sheet 35 [some (.ref p), some (.int n1), some (.int n2), some (.int n3)] [] q1.2 else (bif rv_cnd .eq n2 32 then rv_GO rc_X4_sheet 35 [some (.ref p), some (.int n1), some (.int n2), some (.int n3)] [] q1.2 else ((rv_ri (rv_EV 95 [.ref p, .int 0] q1.2)).bind fun q3 => some (some (.int q3.1), q3.2)))))))) := by
  have e : rv_EV 85 [.ref p, .int n1, .int n2, .int n3] w = rv_GO rc_X4_sheet 0 [some (.ref p), some (.int n1), some (.int n2), some (.int n3)] [] w := by
    show cond ((rv_obj w p 3).isSome && true) _ _ = _
    rw [hp]
    rfl
  rw [e, ← rv_blk_eq [35] 19]
  rfl
set_option maxRecDepth 100000 in
set_option maxHeartbeats 4000000 in
theorem bk_X4_sheet_35 (v0 : Nat) (v1 : Int32) (v2 : Int32) (v3 : Int32) (w : rv_W) : rv_GO rc_X4_sheet 35 [some (.ref v0), some (.int v1), some (.int v2), some (.int v3)] [] w = (bif rv_cnd .ge v3 0 then (bif rv_cnd .le v3 40 then ((rv_ldFR w v0 3 3).bind fun a1 => ((rv_ldQ w a1 v1).bind fun a2 => ((rv_rv (rv_EV 5 [.ref a2, .int v2, .int v3] w)).bind fun q3 => (bif rv_cnd .ne v2 0 then some (some (.int v3), q3) else some (some (.int 0), q3))))) else ((rv_ri (rv_EV 95 [.ref v0, .int 0] w)).bind fun q4 => some (some (.int q4.1), q4.2))) else ((rv_ri (rv_EV 95 [.ref v0, .int 6] w)).bind fun q5 => some (some (.int q5.1), q5.2))) := by
  rw [← rv_blk_eq [35] 18]
  rfl
set_option maxRecDepth 100000 in
set_option maxHeartbeats 4000000 in
theorem ev_X4_write (p : Nat) (n1 : Int32) (n2 : Int32) (n3 : Int32) (w : rv_W) (hp : (rv_obj w p 3).isSome = true) : rv_EV 86 [.ref p, .int n1, .int n2, .int n3] w = ((rv_ri (rv_EV 103 [.ref p, .int n1] w)).bind fun q1 => (bif rv_cnd .eq q1.1 (-1) then (bif rv_cnd .lt n2 0 then ((rv_ri (rv_EV 95 [.ref p, .int 0] q1.2)).bind fun q2 => some (some (.int q2.1), q2.2)) else ((rv_ldFR q1.2 p 3 3).bind fun a3 => ((rv_ldQ q1.2 a3 n1).bind fun a4 => ((rv_ldFI q1.2 a4 0 2).bind fun x5 => (bif rv_cnd .lt n2 x5 then ((rv_ldFR q1.2 p 3 3).bind fun a6 => ((rv_ldQ q1.2 a6 n1).bind fun a7 => ((rv_rv (rv_EV 8 [.ref a7, .int n2, .int n3] q1.2)).bind fun q8 => some (some (.int 1), q8)))) else ((rv_ri (rv_EV 95 [.ref p, .int 0] q1.2)).bind fun q9 => some (some (.int q9.1), q9.2))))))) else ((rv_ri (rv_EV 95 [.ref p, .int q1.1] q1.2)).bind fun q10 => some (some (.int q10.1), q10.2)))) := by
  have e : rv_EV 86 [.ref p, .int n1, .int n2, .int n3] w = rv_GO rc_X4_write 0 [some (.ref p), some (.int n1), some (.int n2), some (.int n3), none] [] w := by
    show cond ((rv_obj w p 3).isSome && true) _ _ = _
    rw [hp]
    rfl
  rw [e, ← rv_blk_eq [] 26]
  rfl
set_option maxRecDepth 100000 in
set_option maxHeartbeats 4000000 in
theorem ev_X4_copy (p : Nat) (n1 : Int32) (n2 : Int32) (n3 : Int32) (n4 : Int32) (n5 : Int32) (w : rv_W) (hp : (rv_obj w p 3).isSome = true) : rv_EV 87 [.ref p, .int n1, .int n2, .int n3, .int n4, .int n5] w = ((rv_ri (rv_EV 100 [.int n1] w)).bind fun q1 => (bif rv_cnd .eq q1.1 0 then ((rv_ri (rv_EV 95 [.ref p, .int 0] q1.2)).bind fun q2 => some (some (.int q2.1), q2.2)) else ((rv_ri (rv_EV 100 [.int n3] q1.2)).bind fun q3 => (bif rv_cnd .ne q3.1 0 then ((rv_ldFR q3.2 p 3 3).bind fun a4 => ((rv_ldQ q3.2 a4 n1).bind fun a5 => ((rv_ldFR q3.2 p 3 3).bind fun a6 => ((rv_ldQ q3.2 a6 n3).bind fun a7 => ((rv_ri (rv_EV 6 [.ref a5] q3.2)).bind fun q8 => (bif rv_cnd .ne q8.1 0 then ((rv_ri (rv_EV 95 [.ref p, .int 5] q8.2)).bind fun q9 => some (some (.int q9.1), q9.2)) else ((rv_ri (rv_EV 6 [.ref a7] q8.2)).bind fun q10 => (bif rv_cnd .eq q10.1 0 then ((rv_ldFI q10.2 a5 0 1).bind fun x11 => ((rv_ldFI q10.2 a7 0 1).bind fun x12 => (bif rv_cnd .eq x11 x12 then ((rv_ri (rv_EV 7 [.ref a5, .int n2, .int n5] q10.2)).bind fun q13 => (bif rv_cnd .eq q13.1 0 then ((rv_ri (rv_EV 95 [.ref p, .int 0] q13.2)).bind fun q14 => some (some (.int q14.1), q14.2)) else ((rv_ri (rv_EV 7 [.ref a7, .int n4, .int n5] q13.2)).bind fun q15 => (bif rv_cnd .ne q15.1 0 then ((rv_ldFR q15.2 a5 0 0).bind fun a16 => ((rv_ldFR q15.2 a7 0 0).bind fun a17 => ((rv_cpy q15.2 a16 n2 a17 n4 n5).bind fun w18 => some (some (.int n5), w18)))) else ((rv_ri (rv_EV 95 [.ref p, .int 0] q15.2)).bind fun q19 => some (some (.int q19.1), q19.2)))))) else ((rv_ri (rv_EV 95 [.ref p, .int 2] q10.2)).bind fun q20 => some (some (.int q20.1), q20.2))))) else ((rv_ri (rv_EV 95 [.ref p, .int 5] q10.2)).bind fun q21 => some (some (.int q21.1), q21.2)))))))))) else ((rv_ri (rv_EV 95 [.ref p, .int 0] q3.2)).bind fun q22 => some (some (.int q22.1), q22.2)))))) := by
  have e : rv_EV 87 [.ref p, .int n1, .int n2, .int n3, .int n4, .int n5] w = rv_GO rc_X4_copy 0 [some (.ref p), some (.int n1), some (.int n2), some (.int n3), some (.int n4), some (.int n5), none, none] [] w := by
    show cond ((rv_obj w p 3).isSome && true) _ _ = _
    rw [hp]
    rfl
  rw [e, ← rv_blk_eq [] 48]
  rfl
set_option maxRecDepth 100000 in
set_option maxHeartbeats 4000000 in
theorem ev_X4_load (p : Nat) (n1 : Int32) (w : rv_W) (hp : (rv_obj w p 3).isSome = true) : rv_EV 88 [.ref p, .int n1] w = ((rv_ri (rv_EV 103 [.ref p, .int n1] w)).bind fun q1 => (bif rv_cnd .eq q1.1 (-1) then ((rv_ldFR q1.2 p 3 3).bind fun a2 => ((rv_ldQ q1.2 a2 n1).bind fun a3 => rv_GO rc_X4_load 27 [some (.ref p), none, none, some (.ref a3), some (.int 0)] [] q1.2)) else ((rv_ri (rv_EV 95 [.ref p, .int q1.1] q1.2)).bind fun q4 => some (some (.int q4.1), q4.2)))) := by
  have e : rv_EV 88 [.ref p, .int n1] w = rv_GO rc_X4_load 0 [some (.ref p), some (.int n1), none, none, none] [] w := by
    show cond ((rv_obj w p 3).isSome && true) _ _ = _
    rw [hp]
    rfl
  rw [e, ← rv_blk_eq [27] 16]
  rfl
set_option maxRecDepth 100000 in
set_option maxHeartbeats 4000000 in
theorem bk_X4_load_27 (v0 : Nat) (v3 : Nat) (v4 : Int32) (w : rv_W) : rv_GO rc_X4_load 27 [some (.ref v0), none, none, some (.ref v3), some (.int v4)] [] w = ((rv_ldFI w v3 0 2).bind fun x1 => (bif rv_cnd .ge v4 x1 then some (some (.int v4), w) else (bif rv_cnd .ge v4 10 then some (some (.int v4), w) else ((rv_ldFR w v3 0 0).bind fun a2 => ((rv_ldI w a2 v4).bind fun x3 => ((rv_ri (rv_EV 96 [.int x3, .int 99] w)).bind fun q4 => (bif rv_cnd .eq q4.1 0 then some (some (.int v4), q4.2) else ((rv_ldFR q4.2 v0 3 0).bind fun a5 => ((rv_ldFR q4.2 a5 1 0).bind fun a6 => ((rv_ldFR q4.2 v3 0 0).bind fun a7 => ((rv_ldI q4.2 a7 v4).bind fun x8 => ((rv_stI q4.2 a6 v4 x8).bind fun w9 => rv_GO rc_X4_load 27 [some (.ref v0), none, none, some (.ref v3), some (.int (v4 + 1))] [] w9)))))))))))) := by
  rw [← rv_blk_eq [27] 27]
  rfl
set_option maxRecDepth 100000 in
set_option maxHeartbeats 4000000 in
theorem ev_X4_judge (p : Nat) (n1 : Int32) (w : rv_W) (hp : (rv_obj w p 3).isSome = true) : rv_EV 89 [.ref p, .int n1] w = ((rv_ri (rv_EV 103 [.ref p, .int n1] w)).bind fun q1 => (bif rv_cnd .eq q1.1 (-1) then ((rv_ldFR q1.2 p 3 3).bind fun a2 => ((rv_ldQ q1.2 a2 n1).bind fun a3 => rv_GO rc_X4_judge 27 [some (.ref p), none, none, some (.ref a3), some (.int 0)] [] q1.2)) else ((rv_ri (rv_EV 95 [.ref p, .int q1.1] q1.2)).bind fun q4 => some (some (.int q4.1), q4.2)))) := by
  have e : rv_EV 89 [.ref p, .int n1] w = rv_GO rc_X4_judge 0 [some (.ref p), some (.int n1), none, none, none] [] w := by
    show cond ((rv_obj w p 3).isSome && true) _ _ = _
    rw [hp]
    rfl
  rw [e, ← rv_blk_eq [27] 16]
  rfl
set_option maxRecDepth 100000 in
set_option maxHeartbeats 4000000 in
theorem bk_X4_judge_27 (v0 : Nat) (v3 : Nat) (v4 : Int32) (w : rv_W) : rv_GO rc_X4_judge 27 [some (.ref v0), none, none, some (.ref v3), some (.int v4)] [] w = ((rv_ldFI w v3 0 2).bind fun x1 => (bif rv_cnd .ge v4 x1 then some (some (.int 0), w) else ((rv_ldFR w v0 3 0).bind fun a2 => ((rv_ri (rv_EV 10 [.ref a2, .int v4] w)).bind fun q3 => (bif rv_cnd .eq q3.1 0 then some (some (.int (1 + v4)), q3.2) else ((rv_ldFR q3.2 v0 3 0).bind fun a4 => ((rv_ldFR q3.2 a4 1 5).bind fun a5 => ((rv_ldI q3.2 a5 v4).bind fun x6 => ((rv_ldFR q3.2 v3 0 0).bind fun a7 => ((rv_ldI q3.2 a7 v4).bind fun x8 => (bif rv_cnd .eq x6 x8 then rv_GO rc_X4_judge 27 [some (.ref v0), none, none, some (.ref v3), some (.int (v4 + 1))] [] q3.2 else some (some (.int (1 + v4)), q3.2)))))))))))) := by
  rw [← rv_blk_eq [27] 24]
  rfl
set_option maxRecDepth 100000 in
set_option maxHeartbeats 4000000 in
theorem ev_X4_image (p : Nat) (w : rv_W) (hp : (rv_obj w p 3).isSome = true) : rv_EV 90 [.ref p] w = ((rv_ldFR w p 3 1).bind fun a1 => ((rv_ldFR w p 3 0).bind fun a2 => ((rv_rv (rv_EV 9 [.ref a1, .ref a2] w)).bind fun q3 => ((rv_stF q3 p 3 8 (.int 1)).bind fun w4 => some (some (.int 1), w4))))) := by
  have e : rv_EV 90 [.ref p] w = rv_GO rc_X4_image 0 [some (.ref p)] [] w := by
    show cond ((rv_obj w p 3).isSome && true) _ _ = _
    rw [hp]
    rfl
  rw [e, ← rv_blk_eq [] 11]
  rfl
set_option maxRecDepth 100000 in
set_option maxHeartbeats 4000000 in
theorem ev_X4_undo (p : Nat) (w : rv_W) (hp : (rv_obj w p 3).isSome = true) : rv_EV 91 [.ref p] w = ((rv_ldFI w p 3 8).bind fun x1 => (bif rv_cnd .ne x1 0 then ((rv_ldFR w p 3 0).bind fun a2 => ((rv_ldFR w p 3 1).bind fun a3 => ((rv_rv (rv_EV 9 [.ref a2, .ref a3] w)).bind fun q4 => ((rv_ldFR q4 p 3 0).bind fun a5 => ((rv_ldFI q4 a5 1 9).bind fun x6 => some (some (.int x6), q4)))))) else ((rv_ri (rv_EV 95 [.ref p, .int 3] w)).bind fun q7 => some (some (.int q7.1), q7.2)))) := by
  have e : rv_EV 91 [.ref p] w = rv_GO rc_X4_undo 0 [some (.ref p)] [] w := by
    show cond ((rv_obj w p 3).isSome && true) _ _ = _
    rw [hp]
    rfl
  rw [e, ← rv_blk_eq [] 13]
  rfl
set_option maxRecDepth 100000 in
set_option maxHeartbeats 4000000 in
theorem ev_X4_tear (p : Nat) (w : rv_W) (hp : (rv_obj w p 3).isSome = true) : rv_EV 92 [.ref p] w = ((rv_ldFI w p 3 8).bind fun x1 => (bif rv_cnd .eq x1 0 then ((rv_stF w p 3 8 (.int 0)).bind fun w2 => some (some (.int 0), w2)) else ((rv_stF w p 3 8 (.int 0)).bind fun w3 => some (some (.int 1), w3)))) := by
  have e : rv_EV 92 [.ref p] w = rv_GO rc_X4_tear 0 [some (.ref p), none] [] w := by
    show cond ((rv_obj w p 3).isSome && true) _ _ = _
    rw [hp]
    rfl
  rw [e, ← rv_blk_eq [] 12]
  rfl
set_option maxRecDepth 100000 in
set_option maxHeartbeats 4000000 in
theorem ev_X4_count (p : Nat) (n1 : Int32) (w : rv_W) (hp : (rv_obj w p 3).isSome = true) : rv_EV 93 [.ref p, .int n1] w = ((rv_ri (rv_EV 96 [.int n1, .int 7] w)).bind fun q1 => (bif rv_cnd .ne q1.1 0 then (bif rv_eq n1 (Int32.ofInt 1) then ((rv_ldFR q1.2 p 3 0).bind fun a15 => ((rv_ldFI q1.2 a15 1 7).bind fun x16 => some (some (.int x16), q1.2))) else (bif rv_eq n1 (Int32.ofInt 2) then ((rv_ldFR q1.2 p 3 0).bind fun a13 => ((rv_ri (rv_EV 32 [.ref a13] q1.2)).bind fun q14 => some (some (.int q14.1), q14.2))) else (bif rv_eq n1 (Int32.ofInt 3) then ((rv_ldFR q1.2 p 3 0).bind fun a11 => ((rv_ri (rv_EV 35 [.ref a11] q1.2)).bind fun q12 => some (some (.int q12.1), q12.2))) else (bif rv_eq n1 (Int32.ofInt 4) then ((rv_ldFR q1.2 p 3 0).bind fun a9 => ((rv_ri (rv_EV 36 [.ref a9] q1.2)).bind fun q10 => some (some (.int q10.1), q10.2))) else (bif rv_eq n1 (Int32.ofInt 5) then ((rv_ldFI q1.2 p 3 7).bind fun x8 => some (some (.int x8), q1.2)) else (bif rv_eq n1 (Int32.ofInt 6) then ((rv_ldFR q1.2 p 3 0).bind fun a6 => ((rv_ldFI q1.2 a6 1 10).bind fun x7 => some (some (.int x7), q1.2))) else (bif rv_eq n1 (Int32.ofInt 7) then ((rv_ldFR q1.2 p 3 0).bind fun a4 => ((rv_ri (rv_EV 37 [.ref a4] q1.2)).bind fun q5 => some (some (.int q5.1), q5.2))) else ((rv_ldFR q1.2 p 3 0).bind fun a2 => ((rv_ldFI q1.2 a2 1 9).bind fun x3 => some (some (.int x3), q1.2)))))))))) else ((rv_ri (rv_EV 95 [.ref p, .int 0] q1.2)).bind fun q17 => some (some (.int q17.1), q17.2)))) := by
  have e : rv_EV 93 [.ref p, .int n1] w = rv_GO rc_X4_count 0 [some (.ref p), some (.int n1)] [] w := by
    show cond ((rv_obj w p 3).isSome && true) _ _ = _
    rw [hp]
    rfl
  rw [e, ← rv_blk_eq [] 11]
  rfl
set_option maxRecDepth 100000 in
set_option maxHeartbeats 4000000 in
theorem ev_X4_status (p : Nat) (n1 : Int32) (w : rv_W) (hp : (rv_obj w p 3).isSome = true) : rv_EV 94 [.ref p, .int n1] w = (bif rv_cnd .lt n1 (-1) then ((rv_ri (rv_EV 95 [.ref p, .int 0] w)).bind fun q1 => some (some (.int q1.1), q1.2)) else (bif rv_cnd .lt n1 7 then (bif rv_cnd .lt n1 0 then ((rv_ldFR w p 3 6).bind fun a2 => ((rv_len w a2).bind fun x3 => rv_GO rc_X4_status 42 [none, none, some (.int 0), some (.ref a2), some (.int x3), some (.int 0), none] [] w)) else ((rv_ldFR w p 3 6).bind fun a4 => ((rv_ldI w a4 n1).bind fun x5 => some (some (.int x5), w)))) else ((rv_ri (rv_EV 95 [.ref p, .int 0] w)).bind fun q6 => some (some (.int q6.1), q6.2)))) := by
  have e : rv_EV 94 [.ref p, .int n1] w = rv_GO rc_X4_status 0 [some (.ref p), some (.int n1), none, none, none, none, none] [] w := by
    show cond ((rv_obj w p 3).isSome && true) _ _ = _
    rw [hp]
    rfl
  rw [e, ← rv_blk_eq [42] 20]
  rfl
set_option maxRecDepth 100000 in
set_option maxHeartbeats 4000000 in
theorem bk_X4_status_42 (v2 : Int32) (v3 : Nat) (v4 : Int32) (v5 : Int32) (w : rv_W) : rv_GO rc_X4_status 42 [none, none, some (.int v2), some (.ref v3), some (.int v4), some (.int v5), none] [] w = (bif rv_cnd .ge v5 v4 then some (some (.int v2), w) else ((rv_ldI w v3 v5).bind fun x1 => rv_GO rc_X4_status 42 [none, none, some (.int (v2 + x1)), some (.ref v3), some (.int v4), some (.int (v5 + 1)), none] [] w)) := by
  rw [← rv_blk_eq [42] 15]
  rfl
set_option maxRecDepth 100000 in
set_option maxHeartbeats 4000000 in
theorem ev_X4_finding (p : Nat) (n1 : Int32) (w : rv_W) (hp : (rv_obj w p 3).isSome = true) : rv_EV 95 [.ref p, .int n1] w = ((rv_ldFR w p 3 6).bind fun a1 => ((rv_ldI w a1 n1).bind fun x2 => ((rv_stI w a1 n1 (x2 + 1)).bind fun w3 => some (some (.int ((-1000001) - n1)), w3)))) := by
  have e : rv_EV 95 [.ref p, .int n1] w = rv_GO rc_X4_finding 0 [some (.ref p), some (.int n1)] [] w := by
    show cond ((rv_obj w p 3).isSome && true) _ _ = _
    rw [hp]
    rfl
  rw [e, ← rv_blk_eq [] 13]
  rfl
set_option maxRecDepth 100000 in
set_option maxHeartbeats 4000000 in
theorem ev_X4_isWithin (n1 : Int32) (n2 : Int32) (w : rv_W) : rv_EV 96 [.int n1, .int n2] w = (bif rv_cnd .lt n1 0 then some (some (.int 0), w) else (bif rv_cnd .gt n1 n2 then some (some (.int 0), w) else some (some (.int 1), w))) := by
  have e : rv_EV 96 [.int n1, .int n2] w = rv_GO rc_X4_isWithin 0 [some (.int n1), some (.int n2)] [] w := by
    rfl
  rw [e, ← rv_blk_eq [] 9]
  rfl
set_option maxRecDepth 100000 in
set_option maxHeartbeats 4000000 in
theorem ev_X4_isTub (n1 : Int32) (w : rv_W) : rv_EV 97 [.int n1] w = (bif rv_cnd .lt n1 0 then some (some (.int 0), w) else (bif rv_cnd .ge n1 10 then some (some (.int 0), w) else some (some (.int 1), w))) := by
  have e : rv_EV 97 [.int n1] w = rv_GO rc_X4_isTub 0 [some (.int n1)] [] w := by
    rfl
  rw [e, ← rv_blk_eq [] 9]
  rfl
set_option maxRecDepth 100000 in
set_option maxHeartbeats 4000000 in
theorem ev_X4_isScent (n1 : Int32) (w : rv_W) : rv_EV 98 [.int n1] w = (bif rv_cnd .lt n1 0 then some (some (.int 0), w) else (bif rv_cnd .ge n1 4 then some (some (.int 0), w) else some (some (.int 1), w))) := by
  have e : rv_EV 98 [.int n1] w = rv_GO rc_X4_isScent 0 [some (.int n1)] [] w := by
    rfl
  rw [e, ← rv_blk_eq [] 9]
  rfl
set_option maxRecDepth 100000 in
set_option maxHeartbeats 4000000 in
theorem ev_X4_isSpot (n1 : Int32) (w : rv_W) : rv_EV 99 [.int n1] w = (bif rv_cnd .lt n1 0 then some (some (.int 0), w) else (bif rv_cnd .ge n1 10 then some (some (.int 0), w) else some (some (.int 1), w))) := by
  have e : rv_EV 99 [.int n1] w = rv_GO rc_X4_isSpot 0 [some (.int n1)] [] w := by
    rfl
  rw [e, ← rv_blk_eq [] 9]
  rfl
set_option maxRecDepth 100000 in
set_option maxHeartbeats 4000000 in
theorem ev_X4_isSheet (n1 : Int32) (w : rv_W) : rv_EV 100 [.int n1] w = (bif rv_cnd .lt n1 0 then some (some (.int 0), w) else (bif rv_cnd .ge n1 4 then some (some (.int 0), w) else some (some (.int 1), w))) := by
  have e : rv_EV 100 [.int n1] w = rv_GO rc_X4_isSheet 0 [some (.int n1)] [] w := by
    rfl
  rw [e, ← rv_blk_eq [] 9]
  rfl
set_option maxRecDepth 100000 in
set_option maxHeartbeats 4000000 in
theorem ev_X4_mostOf (n1 : Int32) (w : rv_W) : rv_EV 101 [.int n1] w = (bif rv_eq n1 (Int32.ofInt 0) then some (some (.int 6), w) else (bif rv_eq n1 (Int32.ofInt 1) then some (some (.int 9), w) else (bif rv_eq n1 (Int32.ofInt 2) then some (some (.int 3), w) else some (some (.int 15), w)))) := by
  have e : rv_EV 101 [.int n1] w = rv_GO rc_X4_mostOf 0 [some (.int n1)] [] w := by
    rfl
  rw [e, ← rv_blk_eq [] 5]
  rfl
set_option maxRecDepth 100000 in
set_option maxHeartbeats 4000000 in
theorem ev_X4_greatestCommonPart (n1 : Int32) (n2 : Int32) (w : rv_W) : rv_EV 102 [.int n1, .int n2] w = rv_GO rc_X4_greatestCommonPart 6 [some (.int n1), some (.int n2), some (.int (rv_min n1 n2))] [] w := by
  have e : rv_EV 102 [.int n1, .int n2] w = rv_GO rc_X4_greatestCommonPart 0 [some (.int n1), some (.int n2), none] [] w := by
    rfl
  rw [e, ← rv_blk_eq [6] 6]
  rfl
set_option maxRecDepth 100000 in
set_option maxHeartbeats 4000000 in
theorem bk_X4_greatestCommonPart_6 (v0 : Int32) (v1 : Int32) (v2 : Int32) (w : rv_W) : rv_GO rc_X4_greatestCommonPart 6 [some (.int v0), some (.int v1), some (.int v2)] [] w = (bif rv_cnd .le v2 1 then some (some (.int 1), w) else (bif rv_eq v2 0 then none else (bif rv_cnd .ne (v0 - v0 / v2 * v2) 0 then rv_GO rc_X4_greatestCommonPart 6 [some (.int v0), some (.int v1), some (.int (v2 + (-1)))] [] w else (bif rv_eq v2 0 then none else (bif rv_cnd .ne (v1 - v1 / v2 * v2) 0 then rv_GO rc_X4_greatestCommonPart 6 [some (.int v0), some (.int v1), some (.int (v2 + (-1)))] [] w else some (some (.int v2), w)))))) := by
  rw [← rv_blk_eq [6] 15]
  rfl
set_option maxRecDepth 100000 in
set_option maxHeartbeats 4000000 in
theorem ev_X4_lackOf (p : Nat) (n1 : Int32) (w : rv_W) (hp : (rv_obj w p 3).isSome = true) : rv_EV 103 [.ref p, .int n1] w = ((rv_ri (rv_EV 100 [.int n1] w)).bind fun q1 => (bif rv_cnd .ne q1.1 0 then ((rv_ldFR q1.2 p 3 3).bind fun a2 => ((rv_ldQ q1.2 a2 n1).bind fun a3 => ((rv_ri (rv_EV 6 [.ref a3] q1.2)).bind fun q4 => (bif rv_cnd .eq q4.1 0 then some (some (.int (-1)), q4.2) else some (some (.int 5), q4.2))))) else some (some (.int 0), q1.2))) := by
  have e : rv_EV 103 [.ref p, .int n1] w = rv_GO rc_X4_lackOf 0 [some (.ref p), some (.int n1)] [] w := by
    show cond ((rv_obj w p 3).isSome && true) _ _ = _
    rw [hp]
    rfl
  rw [e, ← rv_blk_eq [] 13]
  rfl
set_option maxRecDepth 100000 in
set_option maxHeartbeats 4000000 in
theorem ev_X4_hoursUntilKnown (p : Nat) (n1 : Int32) (n2 : Int32) (n3 : Int32) (w : rv_W) (hp : (rv_obj w p 3).isSome = true) : rv_EV 104 [.ref p, .int n1, .int n2, .int n3] w = rv_GO rc_X4_hoursUntilKnown 3 [some (.ref p), some (.int n1), some (.int n2), some (.int n3), some (.int 0)] [] w := by
  have e : rv_EV 104 [.ref p, .int n1, .int n2, .int n3] w = rv_GO rc_X4_hoursUntilKnown 0 [some (.ref p), some (.int n1), some (.int n2), some (.int n3), none] [] w := by
    show cond ((rv_obj w p 3).isSome && true) _ _ = _
    rw [hp]
    rfl
  rw [e, ← rv_blk_eq [3] 4]
  rfl
set_option maxRecDepth 100000 in
set_option maxHeartbeats 4000000 in
theorem bk_X4_hoursUntilKnown_3 (v0 : Nat) (v1 : Int32) (v2 : Int32) (v3 : Int32) (v4 : Int32) (w : rv_W) : rv_GO rc_X4_hoursUntilKnown 3 [some (.ref v0), some (.int v1), some (.int v2), some (.int v3), some (.int v4)] [] w = (bif rv_cnd .gt v4 v3 then some (some (.int (-1)), w) else ((rv_ldFR w v0 3 2).bind fun a1 => ((rv_ldFR w a1 1 5).bind fun a2 => ((rv_ldI w a2 v1).bind fun x3 => (bif rv_cnd .eq ((x3 >>> (v2 &&& 31)) &&& 1) 0 then ((rv_ldFR w v0 3 2).bind fun a4 => ((rv_rv (rv_EV 21 [.ref a4] w)).bind fun q5 => rv_GO rc_X4_hoursUntilKnown 3 [some (.ref v0), some (.int v1), some (.int v2), some (.int v3), some (.int (v4 + 1))] [] q5)) else some (some (.int v4), w)))))) := by
  rw [← rv_blk_eq [3] 20]
  rfl
set_option maxRecDepth 100000 in
set_option maxHeartbeats 4000000 in
theorem ev_X4_isLearned (p : Nat) (n1 : Int32) (n2 : Int32) (w : rv_W) (hp : (rv_obj w p 3).isSome = true) : rv_EV 105 [.ref p, .int n1, .int n2] w = ((rv_ldFR w p 3 2).bind fun a1 => ((rv_ri (rv_EV 29 [.ref a1, .int n1] w)).bind fun q2 => rv_GO rc_X4_isLearned 12 [some (.ref p), some (.int n1), some (.int n2), some (.int q2.1), some (.int 0)] [] q2.2)) := by
  have e : rv_EV 105 [.ref p, .int n1, .int n2] w = rv_GO rc_X4_isLearned 0 [some (.ref p), some (.int n1), some (.int n2), none, none] [] w := by
    show cond ((rv_obj w p 3).isSome && true) _ _ = _
    rw [hp]
    rfl
  rw [e, ← rv_blk_eq [12] 9]
  rfl
set_option maxRecDepth 100000 in
set_option maxHeartbeats 4000000 in
theorem bk_X4_isLearned_12 (v0 : Nat) (v1 : Int32) (v2 : Int32) (v3 : Int32) (v4 : Int32) (w : rv_W) : rv_GO rc_X4_isLearned 12 [some (.ref v0), some (.int v1), some (.int v2), some (.int v3), some (.int v4)] [] w = (bif rv_cnd .ge v4 v2 then some (some (.int 0), w) else ((rv_ldFR w v0 3 2).bind fun a1 => ((rv_rv (rv_EV 21 [.ref a1] w)).bind fun q2 => ((rv_ldFR q2 v0 3 2).bind fun a3 => ((rv_ri (rv_EV 29 [.ref a3, .int v1] q2)).bind fun q4 => (bif rv_cnd .eq q4.1 v3 then rv_GO rc_X4_isLearned 12 [some (.ref v0), some (.int v1), some (.int v2), some (.int v3), some (.int (v4 + 1))] [] q4.2 else some (some (.int 1), q4.2))))))) := by
  rw [← rv_blk_eq [12] 16]
  rfl
set_option maxRecDepth 100000 in
set_option maxHeartbeats 4000000 in
theorem ev_X4_comesOutAs (p : Nat) (n1 : Nat) (w : rv_W) (hp : (rv_obj w p 3).isSome = true) : rv_EV 106 [.ref p, .ref n1] w = rv_GO rc_X4_comesOutAs 2 [some (.ref p), some (.ref n1), some (.int 0), none] [] w := by
  have e : rv_EV 106 [.ref p, .ref n1] w = rv_GO rc_X4_comesOutAs 0 [some (.ref p), some (.ref n1), none, none] [] w := by
    show cond ((rv_obj w p 3).isSome && true) _ _ = _
    rw [hp]
    rfl
  rw [e, ← rv_blk_eq [2, 21] 4]
  rfl
set_option maxRecDepth 100000 in
set_option maxHeartbeats 4000000 in
theorem bk_X4_comesOutAs_2 (v0 : Nat) (v1 : Nat) (v2 : Int32) (w : rv_W) : rv_GO rc_X4_comesOutAs 2 [some (.ref v0), some (.ref v1), some (.int v2), none] [] w = ((rv_ldFI w v1 0 2).bind fun x1 => (bif rv_cnd .ge v2 x1 then some (some (.int 1), w) else (bif rv_cnd .le v2 0 then rv_GO rc_X4_comesOutAs 21 [some (.ref v0), some (.ref v1), some (.int v2), none] [] w else ((rv_ldFR w v0 3 2).bind fun a2 => ((rv_rv (rv_EV 21 [.ref a2] w)).bind fun q3 => rv_GO rc_X4_comesOutAs 21 [some (.ref v0), some (.ref v1), some (.int v2), none] [] q3))))) := by
  rw [← rv_blk_eq [2, 21] 11]
  rfl
set_option maxRecDepth 100000 in
set_option maxHeartbeats 4000000 in
theorem bk_X4_comesOutAs_21 (v0 : Nat) (v1 : Nat) (v2 : Int32) (w : rv_W) : rv_GO rc_X4_comesOutAs 21 [some (.ref v0), some (.ref v1), some (.int v2), none] [] w = ((rv_ldFR w v1 0 0).bind fun a1 => ((rv_ldI w a1 v2).bind fun x2 => (bif rv_cnd .eq x2 (-1) then rv_GO rc_X4_comesOutAs 2 [some (.ref v0), some (.ref v1), some (.int (v2 + 1)), none] [] w else ((rv_ldFR w v0 3 2).bind fun a3 => ((rv_ri (rv_EV 15 [.ref a3, .int 9, .int 0] w)).bind fun q4 => (bif rv_cnd .eq x2 q4.1 then rv_GO rc_X4_comesOutAs 2 [some (.ref v0), some (.ref v1), some (.int (v2 + 1)), none] [] q4.2 else some (some (.int 0), q4.2))))))) := by
  rw [← rv_blk_eq [2, 21] 19]
  rfl
end
section
set_option maxRecDepth 100000 in
set_option maxHeartbeats 4000000 in
theorem ev_X5_isIn (n1 : Int64) (n2 : Int64) (n3 : Int64) (w : rv_W) : rv_EV 107 [.long n1, .long n2, .long n3] w = (bif rv_cnd .lt (lg_cmp n1 n2) 0 then some (some (.int 0), w) else (bif rv_cnd .gt (lg_cmp n1 n3) 0 then some (some (.int 0), w) else some (some (.int 1), w))) := by
  have e : rv_EV 107 [.long n1, .long n2, .long n3] w = rv_GO rc_X5_isIn 0 [some (.long n1), none, some (.long n2), none, some (.long n3), none] [] w := by
    rfl
  rw [e, ← rv_blk_eq [] 12]
  rfl
set_option maxRecDepth 100000 in
set_option maxHeartbeats 4000000 in
theorem ev_X5_finds (p : Nat) (n1 : Int32) (w : rv_W) (hp : (rv_obj w p 4).isSome = true) : rv_EV 108 [.ref p, .int n1] w = ((rv_ldFR w p 4 5).bind fun a1 => ((rv_ldI w a1 0).bind fun x2 => ((rv_stI w a1 0 (x2 + 1)).bind fun w3 => ((rv_ldFR w3 p 4 5).bind fun a4 => ((rv_ldI w3 a4 (((-1000001) - n1) + 1)).bind fun x5 => ((rv_stI w3 a4 (((-1000001) - n1) + 1) (x5 + 1)).bind fun w6 => some (some (.int n1), w6))))))) := by
  have e : rv_EV 108 [.ref p, .int n1] w = rv_GO rc_X5_finds 0 [some (.ref p), some (.int n1)] [] w := by
    show cond ((rv_obj w p 4).isSome && true) _ _ = _
    rw [hp]
    rfl
  rw [e, ← rv_blk_eq [] 23]
  rfl
set_option maxRecDepth 100000 in
set_option maxHeartbeats 4000000 in
theorem ev_X5_becomes (p : Nat) (n1 : Int32) (n2 : Int32) (w : rv_W) (hp : (rv_obj w p 4).isSome = true) : rv_EV 109 [.ref p, .int n1, .int n2] w = ((rv_ldFR w p 4 0).bind fun a1 => ((rv_ldI w a1 n1).bind fun x2 => ((rv_ldFR w p 4 0).bind fun a3 => ((rv_stI w a3 n1 n2).bind fun w4 => some (some (.int x2), w4))))) := by
  have e : rv_EV 109 [.ref p, .int n1, .int n2] w = rv_GO rc_X5_becomes 0 [some (.ref p), some (.int n1), some (.int n2), none] [] w := by
    show cond ((rv_obj w p 4).isSome && true) _ _ = _
    rw [hp]
    rfl
  rw [e, ← rv_blk_eq [] 13]
  rfl
set_option maxRecDepth 100000 in
set_option maxHeartbeats 4000000 in
theorem ev_X5_copyRow (n1 : Nat) (n2 : Nat) (w : rv_W) : rv_EV 110 [.ref n1, .ref n2] w = rv_GO rc_X5_copyRow 2 [some (.ref n1), some (.ref n2), some (.int 0)] [] w := by
  have e : rv_EV 110 [.ref n1, .ref n2] w = rv_GO rc_X5_copyRow 0 [some (.ref n1), some (.ref n2), none] [] w := by
    rfl
  rw [e, ← rv_blk_eq [2] 4]
  rfl
set_option maxRecDepth 100000 in
set_option maxHeartbeats 4000000 in
theorem bk_X5_copyRow_2 (v0 : Nat) (v1 : Nat) (v2 : Int32) (w : rv_W) : rv_GO rc_X5_copyRow 2 [some (.ref v0), some (.ref v1), some (.int v2)] [] w = (bif rv_cnd .ge v2 96 then some (none, w) else ((rv_ldI w v0 v2).bind fun x1 => ((rv_stI w v1 v2 x1).bind fun w2 => rv_GO rc_X5_copyRow 2 [some (.ref v0), some (.ref v1), some (.int (v2 + 1))] [] w2))) := by
  rw [← rv_blk_eq [2] 13]
  rfl
set_option maxRecDepth 100000 in
set_option maxHeartbeats 4000000 in
theorem ev_X5_isTub (n1 : Int32) (w : rv_W) : rv_EV 111 [.int n1] w = (bif rv_cnd .lt n1 0 then some (some (.int 0), w) else (bif rv_cnd .ge n1 10 then some (some (.int 0), w) else some (some (.int 1), w))) := by
  have e : rv_EV 111 [.int n1] w = rv_GO rc_X5_isTub 0 [some (.int n1)] [] w := by
    rfl
  rw [e, ← rv_blk_eq [] 9]
  rfl
set_option maxRecDepth 100000 in
set_option maxHeartbeats 4000000 in
theorem ev_X5_isScent (n1 : Int32) (w : rv_W) : rv_EV 112 [.int n1] w = (bif rv_cnd .lt n1 0 then some (some (.int 0), w) else (bif rv_cnd .ge n1 4 then some (some (.int 0), w) else some (some (.int 1), w))) := by
  have e : rv_EV 112 [.int n1] w = rv_GO rc_X5_isScent 0 [some (.int n1)] [] w := by
    rfl
  rw [e, ← rv_blk_eq [] 9]
  rfl
set_option maxRecDepth 100000 in
set_option maxHeartbeats 4000000 in
theorem ev_X5_isBather (p : Nat) (n1 : Int32) (w : rv_W) (hp : (rv_obj w p 4).isSome = true) : rv_EV 113 [.ref p, .int n1] w = (bif rv_cnd .lt n1 0 then some (some (.int 0), w) else ((rv_ldFR w p 4 0).bind fun a1 => ((rv_ldI w a1 0).bind fun x2 => (bif rv_cnd .ge n1 x2 then some (some (.int 0), w) else some (some (.int 1), w))))) := by
  have e : rv_EV 113 [.ref p, .int n1] w = rv_GO rc_X5_isBather 0 [some (.ref p), some (.int n1)] [] w := by
    show cond ((rv_obj w p 4).isSome && true) _ _ = _
    rw [hp]
    rfl
  rw [e, ← rv_blk_eq [] 12]
  rfl
set_option maxRecDepth 100000 in
set_option maxHeartbeats 4000000 in
theorem ev_X5_its (p : Nat) (n1 : Int32) (n2 : Int32) (w : rv_W) (hp : (rv_obj w p 4).isSome = true) : rv_EV 114 [.ref p, .int n1, .int n2] w = ((rv_ldFR w p 4 0).bind fun a1 => ((rv_ldI w a1 ((54 + (4 * n1)) + n2)).bind fun x2 => some (some (.int x2), w))) := by
  have e : rv_EV 114 [.ref p, .int n1, .int n2] w = rv_GO rc_X5_its 0 [some (.ref p), some (.int n1), some (.int n2)] [] w := by
    show cond ((rv_obj w p 4).isSome && true) _ _ = _
    rw [hp]
    rfl
  rw [e, ← rv_blk_eq [] 12]
  rfl
set_option maxRecDepth 100000 in
set_option maxHeartbeats 4000000 in
theorem ev_X5_orNone (p : Nat) (n1 : Int32) (w : rv_W) (hp : (rv_obj w p 4).isSome = true) : rv_EV 115 [.ref p, .int n1] w = (bif rv_cnd .ge n1 0 then some (some (.int n1), w) else ((rv_ri (rv_EV 108 [.ref p, .int (-1000004)] w)).bind fun q1 => some (some (.int q1.1), q1.2))) := by
  have e : rv_EV 115 [.ref p, .int n1] w = rv_GO rc_X5_orNone 0 [some (.ref p), some (.int n1)] [] w := by
    show cond ((rv_obj w p 4).isSome && true) _ _ = _
    rw [hp]
    rfl
  rw [e, ← rv_blk_eq [] 8]
  rfl
set_option maxRecDepth 100000 in
set_option maxHeartbeats 4000000 in
theorem ev_X5_many (n1 : Int32) (w : rv_W) : rv_EV 116 [.int n1] w = rv_GO rc_X5_many 4 [none, some (.int 0), some (.int n1)] [] w := by
  have e : rv_EV 116 [.int n1] w = rv_GO rc_X5_many 0 [some (.int n1), none, none] [] w := by
    rfl
  rw [e, ← rv_blk_eq [4] 6]
  rfl
set_option maxRecDepth 100000 in
set_option maxHeartbeats 4000000 in
theorem bk_X5_many_4 (v1 : Int32) (v2 : Int32) (w : rv_W) : rv_GO rc_X5_many 4 [none, some (.int v1), some (.int v2)] [] w = (bif rv_cnd .eq v2 0 then some (some (.int v1), w) else rv_GO rc_X5_many 4 [none, some (.int (v1 + 1)), some (.int (v2 &&& (v2 - 1)))] [] w) := by
  rw [← rv_blk_eq [4] 12]
  rfl
set_option maxRecDepth 100000 in
set_option maxHeartbeats 4000000 in
theorem ev_X5_warm (p : Nat) (n1 : Int32) (n2 : Int32) (w : rv_W) (hp : (rv_obj w p 4).isSome = true) : rv_EV 117 [.ref p, .int n1, .int n2] w = ((rv_ri (rv_EV 111 [.int n1] w)).bind fun q1 => (bif rv_cnd .eq q1.1 0 then ((rv_ri (rv_EV 108 [.ref p, .int (-1000001)] q1.2)).bind fun q2 => some (some (.int q2.1), q2.2)) else ((rv_ri (rv_EV 107 [.long (Int32.toInt64 n2), .long (Int32.toInt64 0), .long (Int32.toInt64 99)] q1.2)).bind fun q3 => (bif rv_cnd .eq q3.1 0 then ((rv_ri (rv_EV 108 [.ref p, .int (-1000001)] q3.2)).bind fun q4 => some (some (.int q4.1), q4.2)) else ((rv_ri (rv_EV 109 [.ref p, .int (4 + n1), .int n2] q3.2)).bind fun q5 => some (some (.int q5.1), q5.2)))))) := by
  have e : rv_EV 117 [.ref p, .int n1, .int n2] w = rv_GO rc_X5_warm 0 [some (.ref p), some (.int n1), some (.int n2)] [] w := by
    show cond ((rv_obj w p 4).isSome && true) _ _ = _
    rw [hp]
    rfl
  rw [e, ← rv_blk_eq [] 18]
  rfl
set_option maxRecDepth 100000 in
set_option maxHeartbeats 4000000 in
theorem ev_X5_placeOf (n1 : Int32) (n2 : Int32) (w : rv_W) : rv_EV 118 [.int n1, .int n2] w = some (some (.int ((14 + (4 * n1)) + n2)), w) := by
  have e : rv_EV 118 [.int n1, .int n2] w = rv_GO rc_X5_placeOf 0 [some (.int n1), some (.int n2)] [] w := by
    rfl
  rw [e, ← rv_blk_eq [] 9]
  rfl
set_option maxRecDepth 100000 in
set_option maxHeartbeats 4000000 in
theorem ev_X5_scent (p : Nat) (n1 : Int32) (n2 : Int32) (n3 : Int32) (w : rv_W) (hp : (rv_obj w p 4).isSome = true) : rv_EV 119 [.ref p, .int n1, .int n2, .int n3] w = ((rv_ri (rv_EV 111 [.int n1] w)).bind fun q1 => (bif rv_cnd .eq q1.1 0 then ((rv_ri (rv_EV 108 [.ref p, .int (-1000001)] q1.2)).bind fun q2 => some (some (.int q2.1), q2.2)) else ((rv_ri (rv_EV 112 [.int n2] q1.2)).bind fun q3 => (bif rv_cnd .eq q3.1 0 then ((rv_ri (rv_EV 108 [.ref p, .int (-1000001)] q3.2)).bind fun q4 => some (some (.int q4.1), q4.2)) else ((rv_ri (rv_EV 107 [.long (Int32.toInt64 n3), .long (Int32.toInt64 0), .long (Int32.toInt64 9999)] q3.2)).bind fun q5 => (bif rv_cnd .eq q5.1 0 then ((rv_ri (rv_EV 108 [.ref p, .int (-1000001)] q5.2)).bind fun q6 => some (some (.int q6.1), q6.2)) else ((rv_ri (rv_EV 118 [.int n1, .int n2] q5.2)).bind fun q7 => ((rv_ri (rv_EV 109 [.ref p, .int q7.1, .int n3] q7.2)).bind fun q8 => some (some (.int q8.1), q8.2))))))))) := by
  have e : rv_EV 119 [.ref p, .int n1, .int n2, .int n3] w = rv_GO rc_X5_scent 0 [some (.ref p), some (.int n1), some (.int n2), some (.int n3)] [] w := by
    show cond ((rv_obj w p 4).isSome && true) _ _ = _
    rw [hp]
    rfl
  rw [e, ← rv_blk_eq [] 21]
  rfl
set_option maxRecDepth 100000 in
set_option maxHeartbeats 4000000 in
theorem ev_X5_allIn (p : Nat) (n1 : Int32) (w : rv_W) (hp : (rv_obj w p 4).isSome = true) : rv_EV 120 [.ref p, .int n1] w = rv_GO rc_X5_allIn 4 [some (.ref p), some (.int n1), some (.int 0), some (.int 0)] [] w := by
  have e : rv_EV 120 [.ref p, .int n1] w = rv_GO rc_X5_allIn 0 [some (.ref p), some (.int n1), none, none] [] w := by
    show cond ((rv_obj w p 4).isSome && true) _ _ = _
    rw [hp]
    rfl
  rw [e, ← rv_blk_eq [4] 6]
  rfl
set_option maxRecDepth 100000 in
set_option maxHeartbeats 4000000 in
theorem bk_X5_allIn_4 (v0 : Nat) (v1 : Int32) (v2 : Int32) (v3 : Int32) (w : rv_W) : rv_GO rc_X5_allIn 4 [some (.ref v0), some (.int v1), some (.int v2), some (.int v3)] [] w = (bif rv_cnd .ge v3 4 then some (some (.int v2), w) else ((rv_ldFR w v0 4 0).bind fun a1 => ((rv_ri (rv_EV 118 [.int v1, .int v3] w)).bind fun q2 => ((rv_ldI q2.2 a1 q2.1).bind fun x3 => rv_GO rc_X5_allIn 4 [some (.ref v0), some (.int v1), some (.int (v2 + x3)), some (.int (v3 + 1))] [] q2.2)))) := by
  rw [← rv_blk_eq [4] 16]
  rfl
set_option maxRecDepth 100000 in
set_option maxHeartbeats 4000000 in
theorem ev_X5_there (p : Nat) (n1 : Int32) (w : rv_W) (hp : (rv_obj w p 4).isSome = true) : rv_EV 121 [.ref p, .int n1] w = rv_GO rc_X5_there 4 [some (.ref p), some (.int n1), some (.int 0), some (.int 0)] [] w := by
  have e : rv_EV 121 [.ref p, .int n1] w = rv_GO rc_X5_there 0 [some (.ref p), some (.int n1), none, none] [] w := by
    show cond ((rv_obj w p 4).isSome && true) _ _ = _
    rw [hp]
    rfl
  rw [e, ← rv_blk_eq [4] 6]
  rfl
set_option maxRecDepth 100000 in
set_option maxHeartbeats 4000000 in
theorem bk_X5_there_4 (v0 : Nat) (v1 : Int32) (v2 : Int32) (v3 : Int32) (w : rv_W) : rv_GO rc_X5_there 4 [some (.ref v0), some (.int v1), some (.int v2), some (.int v3)] [] w = ((rv_ldFR w v0 4 0).bind fun a1 => ((rv_ldI w a1 0).bind fun x2 => (bif rv_cnd .ge v3 x2 then some (some (.int v2), w) else ((rv_ri (rv_EV 114 [.ref v0, .int v3, .int 1] w)).bind fun q3 => (bif rv_cnd .ne q3.1 v1 then rv_GO rc_X5_there 4 [some (.ref v0), some (.int v1), some (.int (v2 ||| 0)), some (.int (v3 + 1))] [] q3.2 else rv_GO rc_X5_there 4 [some (.ref v0), some (.int v1), some (.int (v2 ||| (1 <<< (v3 &&& 31)))), some (.int (v3 + 1))] [] q3.2))))) := by
  rw [← rv_blk_eq [4] 23]
  rfl
set_option maxRecDepth 100000 in
set_option maxHeartbeats 4000000 in
theorem ev_X5_tub (p : Nat) (n1 : Int32) (n2 : Int32) (w : rv_W) (hp : (rv_obj w p 4).isSome = true) : rv_EV 122 [.ref p, .int n1, .int n2] w = ((rv_ri (rv_EV 111 [.int n1] w)).bind fun q1 => (bif rv_cnd .eq q1.1 0 then ((rv_ri (rv_EV 108 [.ref p, .int (-1000001)] q1.2)).bind fun q2 => some (some (.int q2.1), q2.2)) else ((rv_ri (rv_EV 107 [.long (Int32.toInt64 n2), .long (Int32.toInt64 0), .long (Int32.toInt64 6)] q1.2)).bind fun q3 => (bif rv_cnd .ne q3.1 0 then (bif rv_cnd .ge n2 4 then (bif rv_cnd .ne n2 4 then (bif rv_cnd .ne n2 5 then ((rv_ri (rv_EV 120 [.ref p, .int n1] q3.2)).bind fun q4 => some (some (.int q4.1), q4.2)) else ((rv_ri (rv_EV 121 [.ref p, .int n1] q3.2)).bind fun q5 => some (some (.int q5.1), q5.2))) else ((rv_ldFR q3.2 p 4 0).bind fun a6 => ((rv_ldI q3.2 a6 (4 + n1)).bind fun x7 => some (some (.int x7), q3.2)))) else ((rv_ldFR q3.2 p 4 0).bind fun a8 => ((rv_ri (rv_EV 118 [.int n1, .int n2] q3.2)).bind fun q9 => ((rv_ldI q9.2 a8 q9.1).bind fun x10 => some (some (.int x10), q9.2))))) else ((rv_ri (rv_EV 108 [.ref p, .int (-1000001)] q3.2)).bind fun q11 => some (some (.int q11.1), q11.2)))))) := by
  have e : rv_EV 122 [.ref p, .int n1, .int n2] w = rv_GO rc_X5_tub 0 [some (.ref p), some (.int n1), some (.int n2)] [] w := by
    show cond ((rv_obj w p 4).isSome && true) _ _ = _
    rw [hp]
    rfl
  rw [e, ← rv_blk_eq [] 24]
  rfl
set_option maxRecDepth 100000 in
set_option maxHeartbeats 4000000 in
theorem ev_X5_fresh (p : Nat) (n1 : Int32) (w : rv_W) (hp : (rv_obj w p 4).isSome = true) : rv_EV 123 [.ref p, .int n1] w = ((rv_ri (rv_EV 107 [.long (Int32.toInt64 n1), .long (Int32.toInt64 0), .long (Int32.toInt64 99)] w)).bind fun q1 => (bif rv_cnd .eq q1.1 0 then ((rv_ri (rv_EV 108 [.ref p, .int (-1000001)] q1.2)).bind fun q2 => some (some (.int q2.1), q2.2)) else ((rv_ri (rv_EV 109 [.ref p, .int 2, .int n1] q1.2)).bind fun q3 => some (some (.int q3.1), q3.2)))) := by
  have e : rv_EV 123 [.ref p, .int n1] w = rv_GO rc_X5_fresh 0 [some (.ref p), some (.int n1)] [] w := by
    show cond ((rv_obj w p 4).isSome && true) _ _ = _
    rw [hp]
    rfl
  rw [e, ← rv_blk_eq [] 13]
  rfl
set_option maxRecDepth 100000 in
set_option maxHeartbeats 4000000 in
theorem ev_X5_pulls (p : Nat) (n1 : Int32) (w : rv_W) (hp : (rv_obj w p 4).isSome = true) : rv_EV 124 [.ref p, .int n1] w = ((rv_ri (rv_EV 120 [.ref p, .int n1] w)).bind fun q1 => ((rv_ldFR q1.2 p 4 0).bind fun a2 => ((rv_stI q1.2 a2 (4 + n1) 0).bind fun w3 => rv_GO rc_X5_pulls 17 [some (.ref p), some (.int n1), some (.int q1.1), some (.int 0)] [] w3))) := by
  have e : rv_EV 124 [.ref p, .int n1] w = rv_GO rc_X5_pulls 0 [some (.ref p), some (.int n1), none, none] [] w := by
    show cond ((rv_obj w p 4).isSome && true) _ _ = _
    rw [hp]
    rfl
  rw [e, ← rv_blk_eq [17] 15]
  rfl
set_option maxRecDepth 100000 in
set_option maxHeartbeats 4000000 in
theorem bk_X5_pulls_17 (v0 : Nat) (v1 : Int32) (v2 : Int32) (v3 : Int32) (w : rv_W) : rv_GO rc_X5_pulls 17 [some (.ref v0), some (.int v1), some (.int v2), some (.int v3)] [] w = (bif rv_cnd .ge v3 4 then some (some (.int v2), w) else ((rv_ldFR w v0 4 0).bind fun a1 => ((rv_ri (rv_EV 118 [.int v1, .int v3] w)).bind fun q2 => ((rv_stI q2.2 a1 q2.1 0).bind fun w3 => rv_GO rc_X5_pulls 17 [some (.ref v0), some (.int v1), some (.int v2), some (.int (v3 + 1))] [] w3)))) := by
  rw [← rv_blk_eq [17] 14]
  rfl
set_option maxRecDepth 100000 in
set_option maxHeartbeats 4000000 in
theorem ev_X5_plug (p : Nat) (n1 : Int32) (w : rv_W) (hp : (rv_obj w p 4).isSome = true) : rv_EV 125 [.ref p, .int n1] w = ((rv_ri (rv_EV 111 [.int n1] w)).bind fun q1 => (bif rv_cnd .eq q1.1 0 then ((rv_ri (rv_EV 108 [.ref p, .int (-1000001)] q1.2)).bind fun q2 => some (some (.int q2.1), q2.2)) else ((rv_ri (rv_EV 124 [.ref p, .int n1] q1.2)).bind fun q3 => some (some (.int q3.1), q3.2)))) := by
  have e : rv_EV 125 [.ref p, .int n1] w = rv_GO rc_X5_plug 0 [some (.ref p), some (.int n1)] [] w := by
    show cond ((rv_obj w p 4).isSome && true) _ _ = _
    rw [hp]
    rfl
  rw [e, ← rv_blk_eq [] 9]
  rfl
set_option maxRecDepth 100000 in
set_option maxHeartbeats 4000000 in
theorem ev_X5_comes (p : Nat) (n1 : Int32) (n2 : Int32) (n3 : Int32) (n4 : Int32) (w : rv_W) (hp : (rv_obj w p 4).isSome = true) : rv_EV 126 [.ref p, .int n1, .int n2, .int n3, .int n4] w = ((rv_ldFR w p 4 0).bind fun a1 => ((rv_ldI w a1 0).bind fun x2 => ((rv_ldFR w p 4 0).bind fun a3 => ((rv_stI w a3 (54 + (4 * x2)) n1).bind fun w4 => ((rv_ldFR w4 p 4 0).bind fun a5 => ((rv_stI w4 a5 ((54 + (4 * x2)) + 1) n2).bind fun w6 => ((rv_ldFR w6 p 4 0).bind fun a7 => ((rv_stI w6 a7 ((54 + (4 * x2)) + 2) n3).bind fun w8 => ((rv_ldFR w8 p 4 0).bind fun a9 => ((rv_stI w8 a9 ((54 + (4 * x2)) + 3) n4).bind fun w10 => ((rv_ldFR w10 p 4 0).bind fun a11 => ((rv_ldI w10 a11 0).bind fun x12 => ((rv_stI w10 a11 0 (x12 + 1)).bind fun w13 => some (none, w13)))))))))))))) := by
  have e : rv_EV 126 [.ref p, .int n1, .int n2, .int n3, .int n4] w = rv_GO rc_X5_comes 0 [some (.ref p), some (.int n1), some (.int n2), some (.int n3), some (.int n4), none] [] w := by
    show cond ((rv_obj w p 4).isSome && true) _ _ = _
    rw [hp]
    rfl
  rw [e, ← rv_blk_eq [] 45]
  rfl
set_option maxRecDepth 100000 in
set_option maxHeartbeats 4000000 in
theorem ev_X5_bather (p : Nat) (n1 : Int32) (n2 : Int32) (w : rv_W) (hp : (rv_obj w p 4).isSome = true) : rv_EV 127 [.ref p, .int n1, .int n2] w = ((rv_ri (rv_EV 107 [.long (Int32.toInt64 n1), .long (Int32.toInt64 0), .long (Int32.toInt64 6)] w)).bind fun q1 => (bif rv_cnd .eq q1.1 0 then ((rv_ri (rv_EV 108 [.ref p, .int (-1000001)] q1.2)).bind fun q2 => some (some (.int q2.1), q2.2)) else ((rv_ri (rv_EV 111 [.int n2] q1.2)).bind fun q3 => (bif rv_cnd .ne q3.1 0 then ((rv_ldFR q3.2 p 4 0).bind fun a4 => ((rv_ldI q3.2 a4 0).bind fun x5 => (bif rv_cnd .ne x5 8 then ((rv_rv (rv_EV 126 [.ref p, .int n1, .int n2, .int 0, .int 0] q3.2)).bind fun q6 => ((rv_ldFR q6 p 4 0).bind fun a7 => ((rv_ldI q6 a7 0).bind fun x8 => some (some (.int (x8 - 1)), q6)))) else ((rv_ri (rv_EV 108 [.ref p, .int (-1000002)] q3.2)).bind fun q9 => some (some (.int q9.1), q9.2))))) else ((rv_ri (rv_EV 108 [.ref p, .int (-1000001)] q3.2)).bind fun q10 => some (some (.int q10.1), q10.2)))))) := by
  have e : rv_EV 127 [.ref p, .int n1, .int n2] w = rv_GO rc_X5_bather 0 [some (.ref p), some (.int n1), some (.int n2)] [] w := by
    show cond ((rv_obj w p 4).isSome && true) _ _ = _
    rw [hp]
    rfl
  rw [e, ← rv_blk_eq [] 29]
  rfl
set_option maxRecDepth 100000 in
set_option maxHeartbeats 4000000 in
theorem ev_X5_adds (p : Nat) (n1 : Int32) (w : rv_W) (hp : (rv_obj w p 4).isSome = true) : rv_EV 128 [.ref p, .int n1] w = ((rv_ri (rv_EV 114 [.ref p, .int n1, .int 0] w)).bind fun q1 => (bif rv_eq q1.1 (Int32.ofInt 1) then some (some (.int 128), q1.2) else (bif rv_eq q1.1 (Int32.ofInt 2) then some (some (.int 32), q1.2) else (bif rv_eq q1.1 (Int32.ofInt 3) then some (some (.int 8), q1.2) else (bif rv_eq q1.1 (Int32.ofInt 4) then ((rv_ri (rv_EV 114 [.ref p, .int n1, .int 3] q1.2)).bind fun q10 => ((rv_ri (rv_EV 116 [.int q10.1] q10.2)).bind fun q11 => some (some (.int (8 + q11.1)), q11.2))) else (bif rv_eq q1.1 (Int32.ofInt 5) then ((rv_ldFR q1.2 p 4 0).bind fun a5 => ((rv_ri (rv_EV 114 [.ref p, .int n1, .int 1] q1.2)).bind fun q6 => ((rv_ri (rv_EV 114 [.ref p, .int n1, .int 2] q6.2)).bind fun q7 => ((rv_ri (rv_EV 118 [.int q6.1, .int q7.1] q7.2)).bind fun q8 => ((rv_ldI q8.2 a5 q8.1).bind fun x9 => (bif rv_cnd .ne x9 0 then some (some (.int 0), q8.2) else some (some (.int 64), q8.2))))))) else (bif rv_eq q1.1 (Int32.ofInt 6) then ((rv_ldFR q1.2 p 4 0).bind fun a2 => ((rv_ri (rv_EV 114 [.ref p, .int n1, .int 1] q1.2)).bind fun q3 => ((rv_ldI q3.2 a2 (4 + q3.1)).bind fun x4 => some (some (.int (128 + x4)), q3.2)))) else some (some (.int 64), q1.2)))))))) := by
  have e : rv_EV 128 [.ref p, .int n1] w = rv_GO rc_X5_adds 0 [some (.ref p), some (.int n1)] [] w := by
    show cond ((rv_obj w p 4).isSome && true) _ _ = _
    rw [hp]
    rfl
  rw [e, ← rv_blk_eq [] 22]
  rfl
set_option maxRecDepth 100000 in
set_option maxHeartbeats 4000000 in
theorem ev_X5_cools (p : Nat) (n1 : Int32) (w : rv_W) (hp : (rv_obj w p 4).isSome = true) : rv_EV 129 [.ref p, .int n1] w = ((rv_ri (rv_EV 114 [.ref p, .int n1, .int 0] w)).bind fun q1 => (bif rv_eq q1.1 (Int32.ofInt 1) then some (some (.int 8), q1.2) else (bif rv_eq q1.1 (Int32.ofInt 2) then some (some (.int 3), q1.2) else (bif rv_eq q1.1 (Int32.ofInt 3) then some (some (.int 3), q1.2) else (bif rv_eq q1.1 (Int32.ofInt 4) then some (some (.int 3), q1.2) else (bif rv_eq q1.1 (Int32.ofInt 5) then some (some (.int 10), q1.2) else (bif rv_eq q1.1 (Int32.ofInt 6) then some (some (.int 16), q1.2) else some (some (.int 5), q1.2)))))))) := by
  have e : rv_EV 129 [.ref p, .int n1] w = rv_GO rc_X5_cools 0 [some (.ref p), some (.int n1)] [] w := by
    show cond ((rv_obj w p 4).isSome && true) _ _ = _
    rw [hp]
    rfl
  rw [e, ← rv_blk_eq [] 8]
  rfl
set_option maxRecDepth 100000 in
set_option maxHeartbeats 4000000 in
theorem ev_X5_nose (p : Nat) (n1 : Int32) (w : rv_W) (hp : (rv_obj w p 4).isSome = true) : rv_EV 130 [.ref p, .int n1] w = ((rv_ri (rv_EV 114 [.ref p, .int n1, .int 0] w)).bind fun q1 => (bif rv_eq q1.1 (Int32.ofInt 2) then some (some (.int 50), q1.2) else (bif rv_eq q1.1 (Int32.ofInt 3) then some (some (.int 30), q1.2) else (bif rv_eq q1.1 (Int32.ofInt 4) then some (some (.int 10), q1.2) else (bif rv_eq q1.1 (Int32.ofInt 5) then some (some (.int 400), q1.2) else (bif rv_eq q1.1 (Int32.ofInt 6) then some (some (.int 300), q1.2) else some (some (.int 100), q1.2))))))) := by
  have e : rv_EV 130 [.ref p, .int n1] w = rv_GO rc_X5_nose 0 [some (.ref p), some (.int n1)] [] w := by
    show cond ((rv_obj w p 4).isSome && true) _ _ = _
    rw [hp]
    rfl
  rw [e, ← rv_blk_eq [] 8]
  rfl
set_option maxRecDepth 100000 in
set_option maxHeartbeats 4000000 in
theorem ev_X5_smells (p : Nat) (n1 : Int32) (w : rv_W) (hp : (rv_obj w p 4).isSome = true) : rv_EV 131 [.ref p, .int n1] w = ((rv_ri (rv_EV 114 [.ref p, .int n1, .int 1] w)).bind fun q1 => ((rv_ri (rv_EV 120 [.ref p, .int q1.1] q1.2)).bind fun q2 => rv_GO rc_X5_smells 19 [some (.ref p), some (.int n1), some (.int q1.1), some (.int q2.1), some (.int 0), some (.int 0), none] [] q2.2)) := by
  have e : rv_EV 131 [.ref p, .int n1] w = rv_GO rc_X5_smells 0 [some (.ref p), some (.int n1), none, none, none, none, none] [] w := by
    show cond ((rv_obj w p 4).isSome && true) _ _ = _
    rw [hp]
    rfl
  rw [e, ← rv_blk_eq [19] 15]
  rfl
set_option maxRecDepth 100000 in
set_option maxHeartbeats 4000000 in
theorem bk_X5_smells_19 (v0 : Nat) (v1 : Int32) (v2 : Int32) (v3 : Int32) (v4 : Int32) (v5 : Int32) (w : rv_W) : rv_GO rc_X5_smells 19 [some (.ref v0), some (.int v1), some (.int v2), some (.int v3), some (.int v4), some (.int v5), none] [] w = (bif rv_cnd .ge v5 4 then some (some (.int v4), w) else ((rv_ldFR w v0 4 0).bind fun a1 => ((rv_ri (rv_EV 118 [.int v2, .int v5] w)).bind fun q2 => ((rv_ldI q2.2 a1 q2.1).bind fun x3 => ((rv_ri (rv_EV 114 [.ref v0, .int v1, .int 2] q2.2)).bind fun q4 => (bif rv_cnd .eq v5 q4.1 then rv_GO rc_X5_smells 19 [some (.ref v0), some (.int v1), some (.int v2), some (.int v3), some (.int (v4 ||| 0)), some (.int (v5 + 1)), none] [] q4.2 else ((rv_ri (rv_EV 130 [.ref v0, .int v1] q4.2)).bind fun q5 => (bif rv_eq 8 0 then none else (bif rv_cnd .lt x3 (q5.1 + ((v3 - x3) / 8)) then rv_GO rc_X5_smells 19 [some (.ref v0), some (.int v1), some (.int v2), some (.int v3), some (.int (v4 ||| 0)), some (.int (v5 + 1)), none] [] q5.2 else rv_GO rc_X5_smells 19 [some (.ref v0), some (.int v1), some (.int v2), some (.int v3), some (.int (v4 ||| (1 <<< (v5 &&& 31)))), some (.int (v5 + 1)), none] [] q5.2))))))))) := by
  rw [← rv_blk_eq [19] 38]
  rfl
set_option maxRecDepth 100000 in
set_option maxHeartbeats 4000000 in
theorem ev_X5_of (p : Nat) (n1 : Int32) (n2 : Int32) (w : rv_W) (hp : (rv_obj w p 4).isSome = true) : rv_EV 132 [.ref p, .int n1, .int n2] w = ((rv_ri (rv_EV 113 [.ref p, .int n1] w)).bind fun q1 => (bif rv_cnd .eq q1.1 0 then ((rv_ri (rv_EV 108 [.ref p, .int (-1000001)] q1.2)).bind fun q2 => some (some (.int q2.1), q2.2)) else ((rv_ri (rv_EV 107 [.long (Int32.toInt64 n2), .long (Int32.toInt64 0), .long (Int32.toInt64 7)] q1.2)).bind fun q3 => (bif rv_cnd .ne q3.1 0 then (bif rv_eq n2 (Int32.ofInt 4) then ((rv_ri (rv_EV 128 [.ref p, .int n1] q3.2)).bind fun q8 => some (some (.int q8.1), q8.2)) else (bif rv_eq n2 (Int32.ofInt 5) then ((rv_ri (rv_EV 129 [.ref p, .int n1] q3.2)).bind fun q7 => some (some (.int q7.1), q7.2)) else (bif rv_eq n2 (Int32.ofInt 6) then ((rv_ri (rv_EV 130 [.ref p, .int n1] q3.2)).bind fun q6 => some (some (.int q6.1), q6.2)) else (bif rv_eq n2 (Int32.ofInt 7) then ((rv_ri (rv_EV 131 [.ref p, .int n1] q3.2)).bind fun q5 => some (some (.int q5.1), q5.2)) else ((rv_ri (rv_EV 114 [.ref p, .int n1, .int n2] q3.2)).bind fun q4 => some (some (.int q4.1), q4.2)))))) else ((rv_ri (rv_EV 108 [.ref p, .int (-1000001)] q3.2)).bind fun q9 => some (some (.int q9.1), q9.2)))))) := by
  have e : rv_EV 132 [.ref p, .int n1, .int n2] w = rv_GO rc_X5_of 0 [some (.ref p), some (.int n1), some (.int n2)] [] w := by
    show cond ((rv_obj w p 4).isSome && true) _ _ = _
    rw [hp]
    rfl
  rw [e, ← rv_blk_eq [] 18]
  rfl
set_option maxRecDepth 100000 in
set_option maxHeartbeats 4000000 in
theorem ev_X5_greatestOf (n1 : Int32) (w : rv_W) : rv_EV 133 [.int n1] w = (bif rv_cnd .ne n1 0 then (bif rv_cnd .ne n1 1 then (bif rv_cnd .ne n1 2 then some (some (.int 15), w) else some (some (.int 3), w)) else some (some (.int 9), w)) else some (some (.int 6), w)) := by
  have e : rv_EV 133 [.int n1] w = rv_GO rc_X5_greatestOf 0 [some (.int n1)] [] w := by
    rfl
  rw [e, ← rv_blk_eq [] 12]
  rfl
set_option maxRecDepth 100000 in
set_option maxHeartbeats 4000000 in
theorem ev_X5_change (p : Nat) (n1 : Int32) (n2 : Int32) (n3 : Int32) (w : rv_W) (hp : (rv_obj w p 4).isSome = true) : rv_EV 134 [.ref p, .int n1, .int n2, .int n3] w = ((rv_ri (rv_EV 113 [.ref p, .int n1] w)).bind fun q1 => (bif rv_cnd .eq q1.1 0 then rv_GO rc_X5_change 39 [some (.ref p), some (.int n1), some (.int n2), some (.int n3), none] [.int 0] q1.2 else ((rv_ri (rv_EV 107 [.long (Int32.toInt64 n2), .long (Int32.toInt64 0), .long (Int32.toInt64 3)] q1.2)).bind fun q2 => (bif rv_cnd .eq q2.1 0 then rv_GO rc_X5_change 39 [some (.ref p), some (.int n1), some (.int n2), some (.int n3), none] [.int 0] q2.2 else ((rv_ri (rv_EV 133 [.int n2] q2.2)).bind fun q3 => ((rv_ri (rv_EV 107 [.long (Int32.toInt64 n3), .long (Int32.toInt64 0), .long (Int32.toInt64 q3.1)] q3.2)).bind fun q4 => (bif rv_cnd .eq q4.1 0 then rv_GO rc_X5_change 39 [some (.ref p), some (.int n1), some (.int n2), some (.int n3), none] [.int 0] q4.2 else rv_GO rc_X5_change 39 [some (.ref p), some (.int n1), some (.int n2), some (.int n3), none] [.int 1] q4.2))))))) := by
  have e : rv_EV 134 [.ref p, .int n1, .int n2, .int n3] w = rv_GO rc_X5_change 0 [some (.ref p), some (.int n1), some (.int n2), some (.int n3), none] [] w := by
    show cond ((rv_obj w p 4).isSome && true) _ _ = _
    rw [hp]
    rfl
  rw [e, ← rv_blk_eq [39] 22]
  rfl
set_option maxRecDepth 100000 in
set_option maxHeartbeats 4000000 in
theorem bk_X5_change_39 (v0 : Nat) (v1 : Int32) (v2 : Int32) (v3 : Int32) (s0 : Int32) (w : rv_W) : rv_GO rc_X5_change 39 [some (.ref v0), some (.int v1), some (.int v2), some (.int v3), none] [.int s0] w = (bif rv_cnd .eq s0 0 then ((rv_ri (rv_EV 108 [.ref v0, .int (-1000001)] w)).bind fun q1 => some (some (.int q1.1), q1.2)) else ((rv_ri (rv_EV 109 [.ref v0, .int ((54 + (4 * v1)) + v2), .int v3] w)).bind fun q2 => some (some (.int q2.1), q2.2))) := by
  rw [← rv_blk_eq [39] 16]
  rfl
set_option maxRecDepth 100000 in
set_option maxHeartbeats 4000000 in
theorem ev_X5_swaps (p : Nat) (n1 : Int32) (n2 : Int32) (w : rv_W) (hp : (rv_obj w p 4).isSome = true) : rv_EV 135 [.ref p, .int n1, .int n2] w = ((rv_ri (rv_EV 114 [.ref p, .int n1, .int 1] w)).bind fun q1 => ((rv_ldFR q1.2 p 4 0).bind fun a2 => ((rv_ri (rv_EV 114 [.ref p, .int n2, .int 1] q1.2)).bind fun q3 => ((rv_stI q3.2 a2 ((54 + (4 * n1)) + 1) q3.1).bind fun w4 => ((rv_ldFR w4 p 4 0).bind fun a5 => ((rv_stI w4 a5 ((54 + (4 * n2)) + 1) q1.1).bind fun w6 => ((rv_ri (rv_EV 114 [.ref p, .int n1, .int 1] w6)).bind fun q7 => (bif rv_cnd .ne q7.1 q1.1 then some (some (.int 1), q7.2) else some (some (.int 0), q7.2))))))))) := by
  have e : rv_EV 135 [.ref p, .int n1, .int n2] w = rv_GO rc_X5_swaps 0 [some (.ref p), some (.int n1), some (.int n2), none] [] w := by
    show cond ((rv_obj w p 4).isSome && true) _ _ = _
    rw [hp]
    rfl
  rw [e, ← rv_blk_eq [] 40]
  rfl
set_option maxRecDepth 100000 in
set_option maxHeartbeats 4000000 in
theorem ev_X5_swap (p : Nat) (n1 : Int32) (n2 : Int32) (w : rv_W) (hp : (rv_obj w p 4).isSome = true) : rv_EV 136 [.ref p, .int n1, .int n2] w = ((rv_ri (rv_EV 113 [.ref p, .int n1] w)).bind fun q1 => (bif rv_cnd .eq q1.1 0 then ((rv_ri (rv_EV 108 [.ref p, .int (-1000001)] q1.2)).bind fun q2 => some (some (.int q2.1), q2.2)) else ((rv_ri (rv_EV 113 [.ref p, .int n2] q1.2)).bind fun q3 => (bif rv_cnd .eq q3.1 0 then ((rv_ri (rv_EV 108 [.ref p, .int (-1000001)] q3.2)).bind fun q4 => some (some (.int q4.1), q4.2)) else (bif rv_cnd .eq n1 n2 then ((rv_ri (rv_EV 108 [.ref p, .int (-1000001)] q3.2)).bind fun q5 => some (some (.int q5.1), q5.2)) else ((rv_ri (rv_EV 135 [.ref p, .int n1, .int n2] q3.2)).bind fun q6 => some (some (.int q6.1), q6.2))))))) := by
  have e : rv_EV 136 [.ref p, .int n1, .int n2] w = rv_GO rc_X5_swap 0 [some (.ref p), some (.int n1), some (.int n2)] [] w := by
    show cond ((rv_obj w p 4).isSome && true) _ _ = _
    rw [hp]
    rfl
  rw [e, ← rv_blk_eq [] 18]
  rfl
set_option maxRecDepth 100000 in
set_option maxHeartbeats 4000000 in
theorem ev_X5_flows (p : Nat) (w : rv_W) (hp : (rv_obj w p 4).isSome = true) : rv_EV 137 [.ref p] w = rv_GO rc_X5_flows 3 [some (.ref p), some (.int 9), none, none] [] w := by
  have e : rv_EV 137 [.ref p] w = rv_GO rc_X5_flows 0 [some (.ref p), none, none, none] [] w := by
    show cond ((rv_obj w p 4).isSome && true) _ _ = _
    rw [hp]
    rfl
  rw [e, ← rv_blk_eq [3, 39, 96] 4]
  rfl
set_option maxRecDepth 100000 in
set_option maxHeartbeats 4000000 in
theorem bk_X5_flows_3 (v0 : Nat) (v1 : Int32) (w : rv_W) : rv_GO rc_X5_flows 3 [some (.ref v0), some (.int v1), none, none] [] w = (bif rv_cnd .le v1 0 then ((rv_ldFR w v0 4 0).bind fun a1 => ((rv_ldFR w v0 4 0).bind fun a2 => ((rv_ldI w a2 2).bind fun x3 => ((rv_stI w a1 4 x3).bind fun w4 => rv_GO rc_X5_flows 96 [some (.ref v0), some (.int 0), none, none] [] w4)))) else ((rv_ldFR w v0 4 0).bind fun a5 => ((rv_ldI w a5 ((4 + v1) - 1)).bind fun x6 => ((rv_ldFR w v0 4 0).bind fun a7 => (bif rv_cnd .ge (x6 - 4) 0 then ((rv_stI w a7 (4 + v1) (x6 - 4)).bind fun w8 => rv_GO rc_X5_flows 39 [some (.ref v0), some (.int v1), none, some (.int 0)] [] w8) else ((rv_stI w a7 (4 + v1) 0).bind fun w9 => rv_GO rc_X5_flows 39 [some (.ref v0), some (.int v1), none, some (.int 0)] [] w9)))))) := by
  rw [← rv_blk_eq [3, 39, 96] 27]
  rfl
set_option maxRecDepth 100000 in
set_option maxHeartbeats 4000000 in
theorem bk_X5_flows_39 (v0 : Nat) (v1 : Int32) (v3 : Int32) (w : rv_W) : rv_GO rc_X5_flows 39 [some (.ref v0), some (.int v1), none, some (.int v3)] [] w = (bif rv_cnd .ge v3 4 then rv_GO rc_X5_flows 3 [some (.ref v0), some (.int (v1 + (-1))), none, none] [] w else ((rv_ldFR w v0 4 0).bind fun a1 => ((rv_ri (rv_EV 118 [.int v1, .int v3] w)).bind fun q2 => ((rv_ldFR q2.2 v0 4 0).bind fun a3 => ((rv_ri (rv_EV 118 [.int (v1 - 1), .int v3] q2.2)).bind fun q4 => ((rv_ldI q4.2 a3 q4.1).bind fun x5 => (bif rv_eq 4 0 then none else ((rv_stI q4.2 a1 q2.1 ((x5 * 3) / 4)).bind fun w6 => rv_GO rc_X5_flows 39 [some (.ref v0), some (.int v1), none, some (.int (v3 + 1))] [] w6)))))))) := by
  rw [← rv_blk_eq [3, 39, 96] 25]
  rfl
set_option maxRecDepth 100000 in
set_option maxHeartbeats 4000000 in
theorem bk_X5_flows_96 (v0 : Nat) (v1 : Int32) (w : rv_W) : rv_GO rc_X5_flows 96 [some (.ref v0), some (.int v1), none, none] [] w = (bif rv_cnd .ge v1 4 then some (none, w) else ((rv_ldFR w v0 4 0).bind fun a1 => ((rv_ri (rv_EV 118 [.int 0, .int v1] w)).bind fun q2 => ((rv_stI q2.2 a1 q2.1 0).bind fun w3 => rv_GO rc_X5_flows 96 [some (.ref v0), some (.int (v1 + 1)), none, none] [] w3)))) := by
  rw [← rv_blk_eq [3, 39, 96] 14]
  rfl
set_option maxRecDepth 100000 in
set_option maxHeartbeats 4000000 in
theorem ev_X5_hourBut (p : Nat) (n1 : Int32) (w : rv_W) (hp : (rv_obj w p 4).isSome = true) : rv_EV 138 [.ref p, .int n1] w = ((rv_rv (rv_EV 137 [.ref p] w)).bind fun q1 => rv_GO rc_X5_hourBut 6 [some (.ref p), some (.int n1), some (.int 0), none, none, none] [] q1) := by
  have e : rv_EV 138 [.ref p, .int n1] w = rv_GO rc_X5_hourBut 0 [some (.ref p), some (.int n1), none, none, none, none] [] w := by
    show cond ((rv_obj w p 4).isSome && true) _ _ = _
    rw [hp]
    rfl
  rw [e, ← rv_blk_eq [6, 68, 135] 6]
  rfl
set_option maxRecDepth 100000 in
set_option maxHeartbeats 4000000 in
theorem bk_X5_hourBut_6 (v0 : Nat) (v1 : Int32) (v2 : Int32) (w : rv_W) : rv_GO rc_X5_hourBut 6 [some (.ref v0), some (.int v1), some (.int v2), none, none, none] [] w = ((rv_ldFR w v0 4 0).bind fun a1 => ((rv_ldI w a1 0).bind fun x2 => (bif rv_cnd .ge v2 x2 then rv_GO rc_X5_hourBut 135 [some (.ref v0), some (.int v1), some (.long (Int32.toInt64 0)), none, some (.int 0), none] [] w else (bif rv_cnd .ne ((v1 >>> (v2 &&& 31)) &&& 1) 0 then rv_GO rc_X5_hourBut 6 [some (.ref v0), some (.int v1), some (.int (v2 + 1)), none, none, none] [] w else ((rv_ri (rv_EV 114 [.ref v0, .int v2, .int 1] w)).bind fun q3 => ((rv_ldFR q3.2 v0 4 0).bind fun a4 => ((rv_ldFR q3.2 v0 4 0).bind fun a5 => ((rv_ldI q3.2 a5 (4 + q3.1)).bind fun x6 => ((rv_ri (rv_EV 129 [.ref v0, .int v2] q3.2)).bind fun q7 => (bif rv_cnd .ge x6 q7.1 then ((rv_ldFR q7.2 v0 4 0).bind fun a8 => ((rv_ldI q7.2 a8 (4 + q3.1)).bind fun x9 => ((rv_ri (rv_EV 129 [.ref v0, .int v2] q7.2)).bind fun q10 => rv_GO rc_X5_hourBut 68 [some (.ref v0), some (.int v1), some (.int v2), none, none, none] [.int (x9 - q10.1), .int (4 + q3.1), .ref a4] q10.2))) else rv_GO rc_X5_hourBut 68 [some (.ref v0), some (.int v1), some (.int v2), none, none, none] [.int 0, .int (4 + q3.1), .ref a4] q7.2)))))))))) := by
  rw [← rv_blk_eq [6, 68, 135] 40]
  rfl
set_option maxRecDepth 100000 in
set_option maxHeartbeats 4000000 in
theorem bk_X5_hourBut_68 (v0 : Nat) (v1 : Int32) (v2 : Int32) (s0 : Int32) (s1 : Int32) (s2 : Nat) (w : rv_W) : rv_GO rc_X5_hourBut 68 [some (.ref v0), some (.int v1), some (.int v2), none, none, none] [.int s0, .int s1, .ref s2] w = ((rv_stI w s2 s1 s0).bind fun w1 => ((rv_ri (rv_EV 114 [.ref v0, .int v2, .int 1] w1)).bind fun q2 => ((rv_ri (rv_EV 114 [.ref v0, .int v2, .int 2] q2.2)).bind fun q3 => ((rv_ri (rv_EV 118 [.int q2.1, .int q3.1] q3.2)).bind fun q4 => ((rv_ldFR q4.2 v0 4 0).bind fun a5 => ((rv_ldI q4.2 a5 q4.1).bind fun x6 => ((rv_ri (rv_EV 128 [.ref v0, .int v2] q4.2)).bind fun q7 => ((rv_ldFR q7.2 v0 4 0).bind fun a8 => (bif rv_cnd .le (x6 + q7.1) 9999 then ((rv_stI q7.2 a8 q4.1 (x6 + q7.1)).bind fun w9 => rv_GO rc_X5_hourBut 6 [some (.ref v0), some (.int v1), some (.int (v2 + 1)), none, none, none] [] w9) else ((rv_stI q7.2 a8 q4.1 9999).bind fun w10 => rv_GO rc_X5_hourBut 6 [some (.ref v0), some (.int v1), some (.int (v2 + 1)), none, none, none] [] w10)))))))))) := by
  rw [← rv_blk_eq [6, 68, 135] 33]
  rfl
set_option maxRecDepth 100000 in
set_option maxHeartbeats 4000000 in
theorem bk_X5_hourBut_135 (v0 : Nat) (v1 : Int32) (v2 : Int64) (v4 : Int32) (w : rv_W) : rv_GO rc_X5_hourBut 135 [some (.ref v0), some (.int v1), some (.long v2), none, some (.int v4), none] [] w = ((rv_ldFR w v0 4 0).bind fun a1 => ((rv_ldI w a1 0).bind fun x2 => (bif rv_cnd .ge v4 x2 then ((rv_ldFR w v0 4 0).bind fun a3 => ((rv_ldI w a3 1).bind fun x4 => ((rv_stI w a3 1 (x4 + 1)).bind fun w5 => some (some (.long v2), w5)))) else (bif rv_cnd .ne ((v1 >>> (v4 &&& 31)) &&& 1) 0 then rv_GO rc_X5_hourBut 135 [some (.ref v0), some (.int v1), some (.long v2), none, some (.int (v4 + 1)), none] [] w else ((rv_ri (rv_EV 131 [.ref v0, .int v4] w)).bind fun q6 => ((rv_ri (rv_EV 114 [.ref v0, .int v4, .int 3] q6.2)).bind fun q7 => ((rv_ldFR q7.2 v0 4 0).bind fun a8 => ((rv_ldI q7.2 a8 ((54 + (4 * v4)) + 3)).bind fun x9 => ((rv_stI q7.2 a8 ((54 + (4 * v4)) + 3) (x9 ||| (q6.1 &&& (q7.1 ^^^ (-1))))).bind fun w10 => rv_GO rc_X5_hourBut 135 [some (.ref v0), some (.int v1), some (.long (v2 ||| ((Int32.toInt64 (q6.1 &&& (q7.1 ^^^ (-1)))) <<< (Int32.toInt64 (4 * v4) &&& 63)))), none, some (.int (v4 + 1)), none] [] w10))))))))) := by
  rw [← rv_blk_eq [6, 68, 135] 50]
  rfl
set_option maxRecDepth 100000 in
set_option maxHeartbeats 4000000 in
theorem ev_X5_hours (p : Nat) (n1 : Int32) (w : rv_W) (hp : (rv_obj w p 4).isSome = true) : rv_EV 139 [.ref p, .int n1] w = rv_GO rc_X5_hours 2 [some (.ref p), some (.int n1), some (.int 0), none, none] [] w := by
  have e : rv_EV 139 [.ref p, .int n1] w = rv_GO rc_X5_hours 0 [some (.ref p), some (.int n1), none, none, none] [] w := by
    show cond ((rv_obj w p 4).isSome && true) _ _ = _
    rw [hp]
    rfl
  rw [e, ← rv_blk_eq [2] 4]
  rfl
set_option maxRecDepth 100000 in
set_option maxHeartbeats 4000000 in
theorem bk_X5_hours_2 (v0 : Nat) (v1 : Int32) (v2 : Int32) (w : rv_W) : rv_GO rc_X5_hours 2 [some (.ref v0), some (.int v1), some (.int v2), none, none] [] w = (bif rv_cnd .ge v2 v1 then some (none, w) else ((rv_rl (rv_EV 138 [.ref v0, .int 0] w)).bind fun q1 => rv_GO rc_X5_hours 2 [some (.ref v0), some (.int v1), some (.int (v2 + 1)), none, none] [] q1.2)) := by
  rw [← rv_blk_eq [2] 11]
  rfl
set_option maxRecDepth 100000 in
set_option maxHeartbeats 4000000 in
theorem ev_X5_go (p : Nat) (n1 : Int32) (w : rv_W) (hp : (rv_obj w p 4).isSome = true) : rv_EV 140 [.ref p, .int n1] w = ((rv_ri (rv_EV 107 [.long (Int32.toInt64 n1), .long (Int32.toInt64 1), .long (Int32.toInt64 40)] w)).bind fun q1 => (bif rv_cnd .ne q1.1 0 then ((rv_ldFR q1.2 p 4 0).bind fun a2 => ((rv_ldI q1.2 a2 1).bind fun x3 => (bif rv_cnd .le (x3 + n1) 99999 then ((rv_rv (rv_EV 139 [.ref p, .int n1] q1.2)).bind fun q4 => ((rv_ldFR q4 p 4 0).bind fun a5 => ((rv_ldI q4 a5 13).bind fun x6 => some (some (.int x6), q4)))) else ((rv_ri (rv_EV 108 [.ref p, .int (-1000005)] q1.2)).bind fun q7 => some (some (.int q7.1), q7.2))))) else ((rv_ri (rv_EV 108 [.ref p, .int (-1000001)] q1.2)).bind fun q8 => some (some (.int q8.1), q8.2)))) := by
  have e : rv_EV 140 [.ref p, .int n1] w = rv_GO rc_X5_go 0 [some (.ref p), some (.int n1)] [] w := by
    show cond ((rv_obj w p 4).isSome && true) _ _ = _
    rw [hp]
    rfl
  rw [e, ← rv_blk_eq [] 23]
  rfl
set_option maxRecDepth 100000 in
set_option maxHeartbeats 4000000 in
theorem ev_X5_sumOf (p : Nat) (n1 : Int32) (n2 : Int32) (w : rv_W) (hp : (rv_obj w p 4).isSome = true) : rv_EV 141 [.ref p, .int n1, .int n2] w = rv_GO rc_X5_sumOf 5 [some (.ref p), some (.int n1), some (.int n2), some (.int 0), some (.int 0)] [] w := by
  have e : rv_EV 141 [.ref p, .int n1, .int n2] w = rv_GO rc_X5_sumOf 0 [some (.ref p), some (.int n1), some (.int n2), none, none] [] w := by
    show cond ((rv_obj w p 4).isSome && true) _ _ = _
    rw [hp]
    rfl
  rw [e, ← rv_blk_eq [5] 6]
  rfl
set_option maxRecDepth 100000 in
set_option maxHeartbeats 4000000 in
theorem bk_X5_sumOf_5 (v0 : Nat) (v1 : Int32) (v2 : Int32) (v3 : Int32) (v4 : Int32) (w : rv_W) : rv_GO rc_X5_sumOf 5 [some (.ref v0), some (.int v1), some (.int v2), some (.int v3), some (.int v4)] [] w = (bif rv_cnd .ge v4 v2 then some (some (.int v3), w) else ((rv_ldFR w v0 4 0).bind fun a1 => ((rv_ldI w a1 (v1 + v4)).bind fun x2 => rv_GO rc_X5_sumOf 5 [some (.ref v0), some (.int v1), some (.int v2), some (.int (v3 + x2)), some (.int (v4 + 1))] [] w))) := by
  rw [← rv_blk_eq [5] 16]
  rfl
set_option maxRecDepth 100000 in
set_option maxHeartbeats 4000000 in
theorem ev_X5_coldTubs (p : Nat) (w : rv_W) (hp : (rv_obj w p 4).isSome = true) : rv_EV 142 [.ref p] w = rv_GO rc_X5_coldTubs 4 [some (.ref p), some (.int 0), some (.int 0)] [] w := by
  have e : rv_EV 142 [.ref p] w = rv_GO rc_X5_coldTubs 0 [some (.ref p), none, none] [] w := by
    show cond ((rv_obj w p 4).isSome && true) _ _ = _
    rw [hp]
    rfl
  rw [e, ← rv_blk_eq [4] 6]
  rfl
set_option maxRecDepth 100000 in
set_option maxHeartbeats 4000000 in
theorem bk_X5_coldTubs_4 (v0 : Nat) (v1 : Int32) (v2 : Int32) (w : rv_W) : rv_GO rc_X5_coldTubs 4 [some (.ref v0), some (.int v1), some (.int v2)] [] w = (bif rv_cnd .ge v2 10 then some (some (.int v1), w) else ((rv_ldFR w v0 4 0).bind fun a1 => ((rv_ldI w a1 (4 + v2)).bind fun x2 => (bif rv_cnd .ge x2 40 then rv_GO rc_X5_coldTubs 4 [some (.ref v0), some (.int (v1 ||| 0)), some (.int (v2 + 1))] [] w else rv_GO rc_X5_coldTubs 4 [some (.ref v0), some (.int (v1 ||| (1 <<< (v2 &&& 31)))), some (.int (v2 + 1))] [] w)))) := by
  rw [← rv_blk_eq [4] 22]
  rfl
set_option maxRecDepth 100000 in
set_option maxHeartbeats 4000000 in
theorem ev_X5_knowing (p : Nat) (w : rv_W) (hp : (rv_obj w p 4).isSome = true) : rv_EV 143 [.ref p] w = rv_GO rc_X5_knowing 4 [some (.ref p), some (.int 0), some (.int 0)] [] w := by
  have e : rv_EV 143 [.ref p] w = rv_GO rc_X5_knowing 0 [some (.ref p), none, none] [] w := by
    show cond ((rv_obj w p 4).isSome && true) _ _ = _
    rw [hp]
    rfl
  rw [e, ← rv_blk_eq [4] 6]
  rfl
set_option maxRecDepth 100000 in
set_option maxHeartbeats 4000000 in
theorem bk_X5_knowing_4 (v0 : Nat) (v1 : Int32) (v2 : Int32) (w : rv_W) : rv_GO rc_X5_knowing 4 [some (.ref v0), some (.int v1), some (.int v2)] [] w = ((rv_ldFR w v0 4 0).bind fun a1 => ((rv_ldI w a1 0).bind fun x2 => (bif rv_cnd .ge v2 x2 then some (some (.int v1), w) else ((rv_ri (rv_EV 114 [.ref v0, .int v2, .int 3] w)).bind fun q3 => ((rv_ri (rv_EV 114 [.ref v0, .int v2, .int 2] q3.2)).bind fun q4 => (bif rv_cnd .ne (q3.1 ||| (1 <<< (q4.1 &&& 31))) 15 then rv_GO rc_X5_knowing 4 [some (.ref v0), some (.int (v1 ||| 0)), some (.int (v2 + 1))] [] q4.2 else rv_GO rc_X5_knowing 4 [some (.ref v0), some (.int (v1 ||| (1 <<< (v2 &&& 31)))), some (.int (v2 + 1))] [] q4.2)))))) := by
  rw [← rv_blk_eq [4] 30]
  rfl
set_option maxRecDepth 100000 in
set_option maxHeartbeats 4000000 in
theorem ev_X5_unknown (p : Nat) (w : rv_W) (hp : (rv_obj w p 4).isSome = true) : rv_EV 144 [.ref p] w = rv_GO rc_X5_unknown 4 [some (.ref p), some (.int 0), some (.int 0), none, none] [] w := by
  have e : rv_EV 144 [.ref p] w = rv_GO rc_X5_unknown 0 [some (.ref p), none, none, none, none] [] w := by
    show cond ((rv_obj w p 4).isSome && true) _ _ = _
    rw [hp]
    rfl
  rw [e, ← rv_blk_eq [4, 19] 6]
  rfl
set_option maxRecDepth 100000 in
set_option maxHeartbeats 4000000 in
theorem bk_X5_unknown_4 (v0 : Nat) (v1 : Int32) (v2 : Int32) (w : rv_W) : rv_GO rc_X5_unknown 4 [some (.ref v0), some (.int v1), some (.int v2), none, none] [] w = ((rv_ldFR w v0 4 0).bind fun a1 => ((rv_ldI w a1 0).bind fun x2 => (bif rv_cnd .ge v2 x2 then some (some (.int v1), w) else rv_GO rc_X5_unknown 19 [some (.ref v0), some (.int v1), some (.int v2), some (.int 1), some (.int 0)] [] w))) := by
  rw [← rv_blk_eq [4, 19] 12]
  rfl
set_option maxRecDepth 100000 in
set_option maxHeartbeats 4000000 in
theorem bk_X5_unknown_19 (v0 : Nat) (v1 : Int32) (v2 : Int32) (v3 : Int32) (v4 : Int32) (w : rv_W) : rv_GO rc_X5_unknown 19 [some (.ref v0), some (.int v1), some (.int v2), some (.int v3), some (.int v4)] [] w = ((rv_ldFR w v0 4 0).bind fun a1 => ((rv_ldI w a1 0).bind fun x2 => (bif rv_cnd .ge v4 x2 then (bif rv_cnd .eq v3 0 then rv_GO rc_X5_unknown 4 [some (.ref v0), some (.int (v1 ||| 0)), some (.int (v2 + 1)), none, none] [] w else rv_GO rc_X5_unknown 4 [some (.ref v0), some (.int (v1 ||| (1 <<< (v2 &&& 31)))), some (.int (v2 + 1)), none, none] [] w) else (bif rv_cnd .eq v4 v2 then rv_GO rc_X5_unknown 19 [some (.ref v0), some (.int v1), some (.int v2), some (.int (v3 &&& 1)), some (.int (v4 + 1))] [] w else ((rv_ri (rv_EV 114 [.ref v0, .int v4, .int 3] w)).bind fun q3 => ((rv_ri (rv_EV 114 [.ref v0, .int v2, .int 2] q3.2)).bind fun q4 => (bif rv_cnd .ne ((q3.1 >>> (q4.1 &&& 31)) &&& 1) 0 then rv_GO rc_X5_unknown 19 [some (.ref v0), some (.int v1), some (.int v2), some (.int (v3 &&& 0)), some (.int (v4 + 1))] [] q4.2 else rv_GO rc_X5_unknown 19 [some (.ref v0), some (.int v1), some (.int v2), some (.int (v3 &&& 1)), some (.int (v4 + 1))] [] q4.2))))))) := by
  rw [← rv_blk_eq [4, 19] 30]
  rfl
set_option maxRecDepth 100000 in
set_option maxHeartbeats 4000000 in
theorem ev_X5_now (p : Nat) (n1 : Int32) (w : rv_W) (hp : (rv_obj w p 4).isSome = true) : rv_EV 145 [.ref p, .int n1] w = (bif rv_eq n1 (Int32.ofInt 0) then ((rv_ldFR w p 4 0).bind fun a7 => ((rv_ldI w a7 1).bind fun x8 => some (some (.int x8), w))) else (bif rv_eq n1 (Int32.ofInt 1) then ((rv_ri (rv_EV 141 [.ref p, .int 4, .int 10] w)).bind fun q6 => some (some (.int q6.1), q6.2)) else (bif rv_eq n1 (Int32.ofInt 2) then ((rv_ri (rv_EV 141 [.ref p, .int 14, .int 40] w)).bind fun q5 => some (some (.int q5.1), q5.2)) else (bif rv_eq n1 (Int32.ofInt 3) then ((rv_ri (rv_EV 142 [.ref p] w)).bind fun q4 => some (some (.int q4.1), q4.2)) else (bif rv_eq n1 (Int32.ofInt 4) then ((rv_ri (rv_EV 143 [.ref p] w)).bind fun q3 => some (some (.int q3.1), q3.2)) else (bif rv_eq n1 (Int32.ofInt 5) then ((rv_ri (rv_EV 144 [.ref p] w)).bind fun q2 => some (some (.int q2.1), q2.2)) else ((rv_ri (rv_EV 108 [.ref p, .int (-1000001)] w)).bind fun q1 => some (some (.int q1.1), q1.2)))))))) := by
  have e : rv_EV 145 [.ref p, .int n1] w = rv_GO rc_X5_now 0 [some (.ref p), some (.int n1)] [] w := by
    show cond ((rv_obj w p 4).isSome && true) _ _ = _
    rw [hp]
    rfl
  rw [e, ← rv_blk_eq [] 8]
  rfl
set_option maxRecDepth 100000 in
set_option maxHeartbeats 4000000 in
theorem ev_X5_ahead (p : Nat) (n1 : Int32) (n2 : Int32) (n3 : Int32) (w : rv_W) (hp : (rv_obj w p 4).isSome = true) : rv_EV 146 [.ref p, .int n1, .int n2, .int n3] w = ((rv_ri (rv_EV 111 [.int n1] w)).bind fun q1 => (bif rv_cnd .eq q1.1 0 then ((rv_ri (rv_EV 108 [.ref p, .int (-1000001)] q1.2)).bind fun q2 => some (some (.int q2.1), q2.2)) else ((rv_ri (rv_EV 107 [.long (Int32.toInt64 n2), .long (Int32.toInt64 0), .long (Int32.toInt64 4)] q1.2)).bind fun q3 => (bif rv_cnd .eq q3.1 0 then ((rv_ri (rv_EV 108 [.ref p, .int (-1000001)] q3.2)).bind fun q4 => some (some (.int q4.1), q4.2)) else ((rv_ri (rv_EV 107 [.long (Int32.toInt64 n3), .long (Int32.toInt64 0), .long (Int32.toInt64 60)] q3.2)).bind fun q5 => (bif rv_cnd .ne q5.1 0 then ((rv_ldFR q5.2 p 4 0).bind fun a6 => ((rv_ldFR q5.2 p 4 3).bind fun a7 => ((rv_rv (rv_EV 110 [.ref a6, .ref a7] q5.2)).bind fun q8 => ((rv_rv (rv_EV 139 [.ref p, .int n3] q8)).bind fun q9 => (bif rv_cnd .ne n2 4 then ((rv_ldFR q9 p 4 0).bind fun a10 => ((rv_ri (rv_EV 118 [.int n1, .int n2] q9)).bind fun q11 => ((rv_ldI q11.2 a10 q11.1).bind fun x12 => rv_GO rc_X5_ahead 80 [some (.ref p), none, none, none, none] [.int x12] q11.2))) else ((rv_ldFR q9 p 4 0).bind fun a13 => ((rv_ldI q9 a13 (4 + n1)).bind fun x14 => rv_GO rc_X5_ahead 80 [some (.ref p), none, none, none, none] [.int x14] q9))))))) else ((rv_ri (rv_EV 108 [.ref p, .int (-1000001)] q5.2)).bind fun q15 => some (some (.int q15.1), q15.2)))))))) := by
  have e : rv_EV 146 [.ref p, .int n1, .int n2, .int n3] w = rv_GO rc_X5_ahead 0 [some (.ref p), some (.int n1), some (.int n2), some (.int n3), none] [] w := by
    show cond ((rv_obj w p 4).isSome && true) _ _ = _
    rw [hp]
    rfl
  rw [e, ← rv_blk_eq [80] 35]
  rfl
set_option maxRecDepth 100000 in
set_option maxHeartbeats 4000000 in
theorem bk_X5_ahead_80 (v0 : Nat) (s0 : Int32) (w : rv_W) : rv_GO rc_X5_ahead 80 [some (.ref v0), none, none, none, none] [.int s0] w = ((rv_ldFR w v0 4 3).bind fun a1 => ((rv_ldFR w v0 4 0).bind fun a2 => ((rv_rv (rv_EV 110 [.ref a1, .ref a2] w)).bind fun q3 => some (some (.int s0), q3)))) := by
  rw [← rv_blk_eq [80] 9]
  rfl
set_option maxRecDepth 100000 in
set_option maxHeartbeats 4000000 in
theorem ev_X5_knownIn (p : Nat) (n1 : Int32) (n2 : Int32) (w : rv_W) (hp : (rv_obj w p 4).isSome = true) : rv_EV 147 [.ref p, .int n1, .int n2] w = ((rv_ldFR w p 4 0).bind fun a1 => ((rv_ldFR w p 4 3).bind fun a2 => ((rv_rv (rv_EV 110 [.ref a1, .ref a2] w)).bind fun q3 => ((rv_rv (rv_EV 139 [.ref p, .int n2] q3)).bind fun q4 => ((rv_ri (rv_EV 114 [.ref p, .int n1, .int 3] q4)).bind fun q5 => ((rv_ldFR q5.2 p 4 3).bind fun a6 => ((rv_ldFR q5.2 p 4 0).bind fun a7 => ((rv_rv (rv_EV 110 [.ref a6, .ref a7] q5.2)).bind fun q8 => some (some (.int q5.1), q8))))))))) := by
  have e : rv_EV 147 [.ref p, .int n1, .int n2] w = rv_GO rc_X5_knownIn 0 [some (.ref p), some (.int n1), some (.int n2), none] [] w := by
    show cond ((rv_obj w p 4).isSome && true) _ _ = _
    rw [hp]
    rfl
  rw [e, ← rv_blk_eq [] 21]
  rfl
set_option maxRecDepth 100000 in
set_option maxHeartbeats 4000000 in
theorem ev_X5_knows (p : Nat) (n1 : Int32) (n2 : Int32) (w : rv_W) (hp : (rv_obj w p 4).isSome = true) : rv_EV 148 [.ref p, .int n1, .int n2] w = ((rv_ri (rv_EV 113 [.ref p, .int n1] w)).bind fun q1 => (bif rv_cnd .eq q1.1 0 then ((rv_ri (rv_EV 108 [.ref p, .int (-1000001)] q1.2)).bind fun q2 => some (some (.int q2.1), q2.2)) else ((rv_ri (rv_EV 107 [.long (Int32.toInt64 n2), .long (Int32.toInt64 0), .long (Int32.toInt64 60)] q1.2)).bind fun q3 => (bif rv_cnd .eq q3.1 0 then ((rv_ri (rv_EV 108 [.ref p, .int (-1000001)] q3.2)).bind fun q4 => some (some (.int q4.1), q4.2)) else ((rv_ri (rv_EV 147 [.ref p, .int n1, .int n2] q3.2)).bind fun q5 => some (some (.int q5.1), q5.2)))))) := by
  have e : rv_EV 148 [.ref p, .int n1, .int n2] w = rv_GO rc_X5_knows 0 [some (.ref p), some (.int n1), some (.int n2)] [] w := by
    show cond ((rv_obj w p 4).isSome && true) _ _ = _
    rw [hp]
    rfl
  rw [e, ← rv_blk_eq [] 17]
  rfl
set_option maxRecDepth 100000 in
set_option maxHeartbeats 4000000 in
theorem ev_X5_soonest (p : Nat) (n1 : Int32) (n2 : Int32) (w : rv_W) (hp : (rv_obj w p 4).isSome = true) : rv_EV 149 [.ref p, .int n1, .int n2] w = ((rv_ldFR w p 4 0).bind fun a1 => ((rv_ldFR w p 4 3).bind fun a2 => ((rv_rv (rv_EV 110 [.ref a1, .ref a2] w)).bind fun q3 => rv_GO rc_X5_soonest 13 [some (.ref p), some (.int n1), some (.int n2), some (.int 0)] [] q3))) := by
  have e : rv_EV 149 [.ref p, .int n1, .int n2] w = rv_GO rc_X5_soonest 0 [some (.ref p), some (.int n1), some (.int n2), none] [] w := by
    show cond ((rv_obj w p 4).isSome && true) _ _ = _
    rw [hp]
    rfl
  rw [e, ← rv_blk_eq [13, 43] 9]
  rfl
set_option maxRecDepth 100000 in
set_option maxHeartbeats 4000000 in
theorem bk_X5_soonest_13 (v0 : Nat) (v1 : Int32) (v2 : Int32) (v3 : Int32) (w : rv_W) : rv_GO rc_X5_soonest 13 [some (.ref v0), some (.int v1), some (.int v2), some (.int v3)] [] w = (bif rv_cnd .gt v3 60 then rv_GO rc_X5_soonest 43 [some (.ref v0), none, none, some (.int v3)] [] w else ((rv_ri (rv_EV 114 [.ref v0, .int v1, .int 3] w)).bind fun q1 => (bif rv_cnd .ne ((q1.1 >>> (v2 &&& 31)) &&& 1) 0 then rv_GO rc_X5_soonest 43 [some (.ref v0), none, none, some (.int v3)] [] q1.2 else ((rv_rv (rv_EV 139 [.ref v0, .int 1] q1.2)).bind fun q2 => rv_GO rc_X5_soonest 13 [some (.ref v0), some (.int v1), some (.int v2), some (.int (v3 + 1))] [] q2)))) := by
  rw [← rv_blk_eq [13, 43] 19]
  rfl
set_option maxRecDepth 100000 in
set_option maxHeartbeats 4000000 in
theorem bk_X5_soonest_43 (v0 : Nat) (v3 : Int32) (w : rv_W) : rv_GO rc_X5_soonest 43 [some (.ref v0), none, none, some (.int v3)] [] w = ((rv_ldFR w v0 4 3).bind fun a1 => ((rv_ldFR w v0 4 0).bind fun a2 => ((rv_rv (rv_EV 110 [.ref a1, .ref a2] w)).bind fun q3 => (bif rv_cnd .gt v3 60 then some (some (.int (-1)), q3) else some (some (.int v3), q3))))) := by
  rw [← rv_blk_eq [13, 43] 12]
  rfl
set_option maxRecDepth 100000 in
set_option maxHeartbeats 4000000 in
theorem ev_X5_when (p : Nat) (n1 : Int32) (n2 : Int32) (w : rv_W) (hp : (rv_obj w p 4).isSome = true) : rv_EV 150 [.ref p, .int n1, .int n2] w = ((rv_ri (rv_EV 113 [.ref p, .int n1] w)).bind fun q1 => (bif rv_cnd .eq q1.1 0 then ((rv_ri (rv_EV 108 [.ref p, .int (-1000001)] q1.2)).bind fun q2 => some (some (.int q2.1), q2.2)) else ((rv_ri (rv_EV 112 [.int n2] q1.2)).bind fun q3 => (bif rv_cnd .eq q3.1 0 then ((rv_ri (rv_EV 108 [.ref p, .int (-1000001)] q3.2)).bind fun q4 => some (some (.int q4.1), q4.2)) else ((rv_ri (rv_EV 149 [.ref p, .int n1, .int n2] q3.2)).bind fun q5 => ((rv_ri (rv_EV 115 [.ref p, .int q5.1] q5.2)).bind fun q6 => some (some (.int q6.1), q6.2))))))) := by
  have e : rv_EV 150 [.ref p, .int n1, .int n2] w = rv_GO rc_X5_when 0 [some (.ref p), some (.int n1), some (.int n2)] [] w := by
    show cond ((rv_obj w p 4).isSome && true) _ _ = _
    rw [hp]
    rfl
  rw [e, ← rv_blk_eq [] 16]
  rfl
set_option maxRecDepth 100000 in
set_option maxHeartbeats 4000000 in
theorem ev_X5_cold (p : Nat) (n1 : Int32) (n2 : Int32) (w : rv_W) (hp : (rv_obj w p 4).isSome = true) : rv_EV 151 [.ref p, .int n1, .int n2] w = ((rv_ri (rv_EV 111 [.int n1] w)).bind fun q1 => (bif rv_cnd .eq q1.1 0 then ((rv_ri (rv_EV 108 [.ref p, .int (-1000001)] q1.2)).bind fun q2 => some (some (.int q2.1), q2.2)) else ((rv_ri (rv_EV 107 [.long (Int32.toInt64 n2), .long (Int32.toInt64 0), .long (Int32.toInt64 99)] q1.2)).bind fun q3 => (bif rv_cnd .ne q3.1 0 then ((rv_ldFR q3.2 p 4 0).bind fun a4 => ((rv_ldFR q3.2 p 4 3).bind fun a5 => ((rv_rv (rv_EV 110 [.ref a4, .ref a5] q3.2)).bind fun q6 => rv_GO rc_X5_cold 39 [some (.ref p), some (.int n1), some (.int n2), some (.int 0)] [] q6))) else ((rv_ri (rv_EV 108 [.ref p, .int (-1000001)] q3.2)).bind fun q7 => some (some (.int q7.1), q7.2)))))) := by
  have e : rv_EV 151 [.ref p, .int n1, .int n2] w = rv_GO rc_X5_cold 0 [some (.ref p), some (.int n1), some (.int n2), none] [] w := by
    show cond ((rv_obj w p 4).isSome && true) _ _ = _
    rw [hp]
    rfl
  rw [e, ← rv_blk_eq [39, 68] 18]
  rfl
set_option maxRecDepth 100000 in
set_option maxHeartbeats 4000000 in
theorem bk_X5_cold_39 (v0 : Nat) (v1 : Int32) (v2 : Int32) (v3 : Int32) (w : rv_W) : rv_GO rc_X5_cold 39 [some (.ref v0), some (.int v1), some (.int v2), some (.int v3)] [] w = (bif rv_cnd .gt v3 60 then rv_GO rc_X5_cold 68 [some (.ref v0), none, none, some (.int v3)] [] w else ((rv_ldFR w v0 4 0).bind fun a1 => ((rv_ldI w a1 (4 + v1)).bind fun x2 => (bif rv_cnd .lt x2 v2 then rv_GO rc_X5_cold 68 [some (.ref v0), none, none, some (.int v3)] [] w else ((rv_rv (rv_EV 139 [.ref v0, .int 1] w)).bind fun q3 => rv_GO rc_X5_cold 39 [some (.ref v0), some (.int v1), some (.int v2), some (.int (v3 + 1))] [] q3))))) := by
  rw [← rv_blk_eq [39, 68] 18]
  rfl
set_option maxRecDepth 100000 in
set_option maxHeartbeats 4000000 in
theorem bk_X5_cold_68 (v0 : Nat) (v3 : Int32) (w : rv_W) : rv_GO rc_X5_cold 68 [some (.ref v0), none, none, some (.int v3)] [] w = ((rv_ldFR w v0 4 3).bind fun a1 => ((rv_ldFR w v0 4 0).bind fun a2 => ((rv_rv (rv_EV 110 [.ref a1, .ref a2] w)).bind fun q3 => (bif rv_cnd .gt v3 60 then ((rv_ri (rv_EV 108 [.ref v0, .int (-1000004)] q3)).bind fun q4 => some (some (.int q4.1), q4.2)) else some (some (.int v3), q3))))) := by
  rw [← rv_blk_eq [39, 68] 13]
  rfl
set_option maxRecDepth 100000 in
set_option maxHeartbeats 4000000 in
theorem ev_X5_leftOf (n1 : Int32) (n2 : Int32) (w : rv_W) : rv_EV 152 [.int n1, .int n2] w = rv_GO rc_X5_leftOf 4 [none, some (.int n2), some (.int n1), some (.int 0)] [] w := by
  have e : rv_EV 152 [.int n1, .int n2] w = rv_GO rc_X5_leftOf 0 [some (.int n1), some (.int n2), none, none] [] w := by
    rfl
  rw [e, ← rv_blk_eq [4] 6]
  rfl
set_option maxRecDepth 100000 in
set_option maxHeartbeats 4000000 in
theorem bk_X5_leftOf_4 (v1 : Int32) (v2 : Int32) (v3 : Int32) (w : rv_W) : rv_GO rc_X5_leftOf 4 [none, some (.int v1), some (.int v2), some (.int v3)] [] w = (bif rv_cnd .ge v3 v1 then some (some (.int v2), w) else (bif rv_eq 4 0 then none else rv_GO rc_X5_leftOf 4 [none, some (.int v1), some (.int ((v2 * 3) / 4)), some (.int (v3 + 1))] [] w)) := by
  rw [← rv_blk_eq [4] 13]
  rfl
set_option maxRecDepth 100000 in
set_option maxHeartbeats 4000000 in
theorem ev_X5_left (p : Nat) (n1 : Int32) (n2 : Int32) (w : rv_W) (hp : (rv_obj w p 4).isSome = true) : rv_EV 153 [.ref p, .int n1, .int n2] w = ((rv_ri (rv_EV 107 [.long (Int32.toInt64 n1), .long (Int32.toInt64 0), .long (Int32.toInt64 9999)] w)).bind fun q1 => (bif rv_cnd .eq q1.1 0 then ((rv_ri (rv_EV 108 [.ref p, .int (-1000001)] q1.2)).bind fun q2 => some (some (.int q2.1), q2.2)) else ((rv_ri (rv_EV 107 [.long (Int32.toInt64 n2), .long (Int32.toInt64 0), .long (Int32.toInt64 9)] q1.2)).bind fun q3 => (bif rv_cnd .eq q3.1 0 then ((rv_ri (rv_EV 108 [.ref p, .int (-1000001)] q3.2)).bind fun q4 => some (some (.int q4.1), q4.2)) else ((rv_ri (rv_EV 152 [.int n1, .int n2] q3.2)).bind fun q5 => some (some (.int q5.1), q5.2)))))) := by
  have e : rv_EV 153 [.ref p, .int n1, .int n2] w = rv_GO rc_X5_left 0 [some (.ref p), some (.int n1), some (.int n2)] [] w := by
    show cond ((rv_obj w p 4).isSome && true) _ _ = _
    rw [hp]
    rfl
  rw [e, ← rv_blk_eq [] 18]
  rfl
set_option maxRecDepth 100000 in
set_option maxHeartbeats 4000000 in
theorem ev_X5_needed (p : Nat) (n1 : Int32) (n2 : Int32) (w : rv_W) (hp : (rv_obj w p 4).isSome = true) : rv_EV 154 [.ref p, .int n1, .int n2] w = ((rv_ri (rv_EV 107 [.long (Int32.toInt64 n1), .long (Int32.toInt64 0), .long (Int32.toInt64 500)] w)).bind fun q1 => (bif rv_cnd .eq q1.1 0 then ((rv_ri (rv_EV 108 [.ref p, .int (-1000001)] q1.2)).bind fun q2 => some (some (.int q2.1), q2.2)) else ((rv_ri (rv_EV 107 [.long (Int32.toInt64 n2), .long (Int32.toInt64 0), .long (Int32.toInt64 9)] q1.2)).bind fun q3 => (bif rv_cnd .ne q3.1 0 then rv_GO rc_X5_needed 33 [some (.ref p), some (.int n1), some (.int n2), some (.int 0)] [] q3.2 else ((rv_ri (rv_EV 108 [.ref p, .int (-1000001)] q3.2)).bind fun q4 => some (some (.int q4.1), q4.2)))))) := by
  have e : rv_EV 154 [.ref p, .int n1, .int n2] w = rv_GO rc_X5_needed 0 [some (.ref p), some (.int n1), some (.int n2), none] [] w := by
    show cond ((rv_obj w p 4).isSome && true) _ _ = _
    rw [hp]
    rfl
  rw [e, ← rv_blk_eq [33, 55] 17]
  rfl
set_option maxRecDepth 100000 in
set_option maxHeartbeats 4000000 in
theorem bk_X5_needed_33 (v0 : Nat) (v1 : Int32) (v2 : Int32) (v3 : Int32) (w : rv_W) : rv_GO rc_X5_needed 33 [some (.ref v0), some (.int v1), some (.int v2), some (.int v3)] [] w = (bif rv_cnd .gt v3 9999 then rv_GO rc_X5_needed 55 [some (.ref v0), none, none, some (.int v3)] [] w else ((rv_ri (rv_EV 152 [.int v3, .int v2] w)).bind fun q1 => (bif rv_cnd .ge q1.1 v1 then rv_GO rc_X5_needed 55 [some (.ref v0), none, none, some (.int v3)] [] q1.2 else rv_GO rc_X5_needed 33 [some (.ref v0), some (.int v1), some (.int v2), some (.int (v3 + 1))] [] q1.2))) := by
  rw [← rv_blk_eq [33, 55] 12]
  rfl
set_option maxRecDepth 100000 in
set_option maxHeartbeats 4000000 in
theorem bk_X5_needed_55 (v0 : Nat) (v3 : Int32) (w : rv_W) : rv_GO rc_X5_needed 55 [some (.ref v0), none, none, some (.int v3)] [] w = (bif rv_cnd .gt v3 9999 then ((rv_ri (rv_EV 108 [.ref v0, .int (-1000004)] w)).bind fun q1 => some (some (.int q1.1), q1.2)) else some (some (.int v3), w)) := by
  rw [← rv_blk_eq [33, 55] 8]
  rfl
set_option maxRecDepth 100000 in
set_option maxHeartbeats 4000000 in
theorem ev_X5_swapFor (p : Nat) (n1 : Int32) (n2 : Int32) (w : rv_W) (hp : (rv_obj w p 4).isSome = true) : rv_EV 155 [.ref p, .int n1, .int n2] w = ((rv_ri (rv_EV 113 [.ref p, .int n1] w)).bind fun q1 => (bif rv_cnd .eq q1.1 0 then ((rv_ri (rv_EV 108 [.ref p, .int (-1000001)] q1.2)).bind fun q2 => some (some (.int q2.1), q2.2)) else ((rv_ri (rv_EV 107 [.long (Int32.toInt64 n2), .long (Int32.toInt64 0), .long (Int32.toInt64 40)] q1.2)).bind fun q3 => (bif rv_cnd .ne q3.1 0 then rv_GO rc_X5_swapFor 35 [some (.ref p), some (.int n1), some (.int n2), some (.int (-1)), some (.int (-1)), some (.int 0), none, none] [] q3.2 else ((rv_ri (rv_EV 108 [.ref p, .int (-1000001)] q3.2)).bind fun q4 => some (some (.int q4.1), q4.2)))))) := by
  have e : rv_EV 155 [.ref p, .int n1, .int n2] w = rv_GO rc_X5_swapFor 0 [some (.ref p), some (.int n1), some (.int n2), none, none, none, none, none] [] w := by
    show cond ((rv_obj w p 4).isSome && true) _ _ = _
    rw [hp]
    rfl
  rw [e, ← rv_blk_eq [35, 94] 18]
  rfl
set_option maxRecDepth 100000 in
set_option maxHeartbeats 4000000 in
theorem bk_X5_swapFor_35 (v0 : Nat) (v1 : Int32) (v2 : Int32) (v3 : Int32) (v4 : Int32) (v5 : Int32) (w : rv_W) : rv_GO rc_X5_swapFor 35 [some (.ref v0), some (.int v1), some (.int v2), some (.int v3), some (.int v4), some (.int v5), none, none] [] w = ((rv_ldFR w v0 4 0).bind fun a1 => ((rv_ldI w a1 0).bind fun x2 => (bif rv_cnd .ge v5 x2 then ((rv_ri (rv_EV 115 [.ref v0, .int v3] w)).bind fun q3 => some (some (.int q3.1), q3.2)) else (bif rv_cnd .eq v5 v1 then rv_GO rc_X5_swapFor 35 [some (.ref v0), some (.int v1), some (.int v2), some (.int v3), some (.int v4), some (.int (v5 + 1)), none, none] [] w else ((rv_ri (rv_EV 135 [.ref v0, .int v1, .int v5] w)).bind fun q4 => ((rv_ri (rv_EV 147 [.ref v0, .int v1, .int v2] q4.2)).bind fun q5 => ((rv_ri (rv_EV 116 [.int q5.1] q5.2)).bind fun q6 => ((rv_ri (rv_EV 135 [.ref v0, .int v1, .int v5] q6.2)).bind fun q7 => (bif rv_cnd .le q6.1 v4 then rv_GO rc_X5_swapFor 94 [some (.ref v0), some (.int v1), some (.int v2), none, some (.int v4), some (.int v5), none, some (.int q6.1)] [.int v3] q7.2 else rv_GO rc_X5_swapFor 94 [some (.ref v0), some (.int v1), some (.int v2), none, some (.int v4), some (.int v5), none, some (.int q6.1)] [.int v5] q7.2))))))))) := by
  rw [← rv_blk_eq [35, 94] 32]
  rfl
set_option maxRecDepth 100000 in
set_option maxHeartbeats 4000000 in
theorem bk_X5_swapFor_94 (v0 : Nat) (v1 : Int32) (v2 : Int32) (v4 : Int32) (v5 : Int32) (v7 : Int32) (s0 : Int32) (w : rv_W) : rv_GO rc_X5_swapFor 94 [some (.ref v0), some (.int v1), some (.int v2), none, some (.int v4), some (.int v5), none, some (.int v7)] [.int s0] w = (bif rv_cnd .le v7 v4 then rv_GO rc_X5_swapFor 35 [some (.ref v0), some (.int v1), some (.int v2), some (.int s0), some (.int v4), some (.int (v5 + 1)), none, none] [] w else rv_GO rc_X5_swapFor 35 [some (.ref v0), some (.int v1), some (.int v2), some (.int s0), some (.int v7), some (.int (v5 + 1)), none, none] [] w) := by
  rw [← rv_blk_eq [35, 94] 11]
  rfl
set_option maxRecDepth 100000 in
set_option maxHeartbeats 4000000 in
theorem ev_X5_seat (p : Nat) (n1 : Int32) (n2 : Int32) (w : rv_W) (hp : (rv_obj w p 4).isSome = true) : rv_EV 156 [.ref p, .int n1, .int n2] w = ((rv_ri (rv_EV 113 [.ref p, .int n1] w)).bind fun q1 => (bif rv_cnd .eq q1.1 0 then ((rv_ri (rv_EV 108 [.ref p, .int (-1000001)] q1.2)).bind fun q2 => some (some (.int q2.1), q2.2)) else ((rv_ri (rv_EV 112 [.int n2] q1.2)).bind fun q3 => (bif rv_cnd .ne q3.1 0 then ((rv_ldFR q3.2 p 4 0).bind fun a4 => ((rv_ldI q3.2 a4 ((54 + (4 * n1)) + 1)).bind fun x5 => rv_GO rc_X5_seat 49 [some (.ref p), some (.int n1), some (.int n2), some (.int ((54 + (4 * n1)) + 1)), some (.int x5), some (.int (-1)), some (.int 61), some (.int 0), none, none] [] q3.2)) else ((rv_ri (rv_EV 108 [.ref p, .int (-1000001)] q3.2)).bind fun q6 => some (some (.int q6.1), q6.2)))))) := by
  have e : rv_EV 156 [.ref p, .int n1, .int n2] w = rv_GO rc_X5_seat 0 [some (.ref p), some (.int n1), some (.int n2), none, none, none, none, none, none, none] [] w := by
    show cond ((rv_obj w p 4).isSome && true) _ _ = _
    rw [hp]
    rfl
  rw [e, ← rv_blk_eq [49, 89, 103] 28]
  rfl
set_option maxRecDepth 100000 in
set_option maxHeartbeats 4000000 in
theorem bk_X5_seat_49 (v0 : Nat) (v1 : Int32) (v2 : Int32) (v3 : Int32) (v4 : Int32) (v5 : Int32) (v6 : Int32) (v7 : Int32) (w : rv_W) : rv_GO rc_X5_seat 49 [some (.ref v0), some (.int v1), some (.int v2), some (.int v3), some (.int v4), some (.int v5), some (.int v6), some (.int v7), none, none] [] w = (bif rv_cnd .ge v7 10 then ((rv_ldFR w v0 4 0).bind fun a1 => ((rv_stI w a1 v3 v4).bind fun w2 => ((rv_ri (rv_EV 115 [.ref v0, .int v5] w2)).bind fun q3 => some (some (.int q3.1), q3.2)))) else ((rv_ldFR w v0 4 0).bind fun a4 => ((rv_stI w a4 v3 v7).bind fun w5 => ((rv_ri (rv_EV 149 [.ref v0, .int v1, .int v2] w5)).bind fun q6 => (bif rv_cnd .lt q6.1 0 then rv_GO rc_X5_seat 89 [some (.ref v0), some (.int v1), some (.int v2), some (.int v3), some (.int v4), some (.int v5), some (.int v6), some (.int v7), some (.int q6.1), none] [.int 0] q6.2 else (bif rv_cnd .ge q6.1 v6 then rv_GO rc_X5_seat 89 [some (.ref v0), some (.int v1), some (.int v2), some (.int v3), some (.int v4), some (.int v5), some (.int v6), some (.int v7), some (.int q6.1), none] [.int 0] q6.2 else rv_GO rc_X5_seat 89 [some (.ref v0), some (.int v1), some (.int v2), some (.int v3), some (.int v4), some (.int v5), some (.int v6), some (.int v7), some (.int q6.1), none] [.int 1] q6.2)))))) := by
  rw [← rv_blk_eq [49, 89, 103] 22]
  rfl
set_option maxRecDepth 100000 in
set_option maxHeartbeats 4000000 in
theorem bk_X5_seat_89 (v0 : Nat) (v1 : Int32) (v2 : Int32) (v3 : Int32) (v4 : Int32) (v5 : Int32) (v6 : Int32) (v7 : Int32) (v8 : Int32) (s0 : Int32) (w : rv_W) : rv_GO rc_X5_seat 89 [some (.ref v0), some (.int v1), some (.int v2), some (.int v3), some (.int v4), some (.int v5), some (.int v6), some (.int v7), some (.int v8), none] [.int s0] w = (bif rv_cnd .eq s0 0 then rv_GO rc_X5_seat 103 [some (.ref v0), some (.int v1), some (.int v2), some (.int v3), some (.int v4), none, some (.int v6), some (.int v7), some (.int v8), some (.int s0)] [.int v5] w else rv_GO rc_X5_seat 103 [some (.ref v0), some (.int v1), some (.int v2), some (.int v3), some (.int v4), none, some (.int v6), some (.int v7), some (.int v8), some (.int s0)] [.int v7] w) := by
  rw [← rv_blk_eq [49, 89, 103] 7]
  rfl
set_option maxRecDepth 100000 in
set_option maxHeartbeats 4000000 in
theorem bk_X5_seat_103 (v0 : Nat) (v1 : Int32) (v2 : Int32) (v3 : Int32) (v4 : Int32) (v6 : Int32) (v7 : Int32) (v8 : Int32) (v9 : Int32) (s0 : Int32) (w : rv_W) : rv_GO rc_X5_seat 103 [some (.ref v0), some (.int v1), some (.int v2), some (.int v3), some (.int v4), none, some (.int v6), some (.int v7), some (.int v8), some (.int v9)] [.int s0] w = (bif rv_cnd .eq v9 0 then rv_GO rc_X5_seat 49 [some (.ref v0), some (.int v1), some (.int v2), some (.int v3), some (.int v4), some (.int s0), some (.int v6), some (.int (v7 + 1)), none, none] [] w else rv_GO rc_X5_seat 49 [some (.ref v0), some (.int v1), some (.int v2), some (.int v3), some (.int v4), some (.int s0), some (.int v8), some (.int (v7 + 1)), none, none] [] w) := by
  rw [← rv_blk_eq [49, 89, 103] 10]
  rfl
set_option maxRecDepth 100000 in
set_option maxHeartbeats 4000000 in
theorem ev_X5_kindFor (p : Nat) (n1 : Int32) (n2 : Int32) (w : rv_W) (hp : (rv_obj w p 4).isSome = true) : rv_EV 157 [.ref p, .int n1, .int n2] w = ((rv_ri (rv_EV 113 [.ref p, .int n1] w)).bind fun q1 => (bif rv_cnd .eq q1.1 0 then ((rv_ri (rv_EV 108 [.ref p, .int (-1000001)] q1.2)).bind fun q2 => some (some (.int q2.1), q2.2)) else ((rv_ri (rv_EV 107 [.long (Int32.toInt64 n2), .long (Int32.toInt64 0), .long (Int32.toInt64 40)] q1.2)).bind fun q3 => (bif rv_cnd .ne q3.1 0 then ((rv_ldFR q3.2 p 4 0).bind fun a4 => ((rv_ldI q3.2 a4 (54 + (4 * n1))).bind fun x5 => rv_GO rc_X5_kindFor 51 [some (.ref p), some (.int n1), some (.int n2), some (.int (54 + (4 * n1))), some (.int x5), some (.int 0), some (.int (-1)), some (.int 0), none] [] q3.2)) else ((rv_ri (rv_EV 108 [.ref p, .int (-1000001)] q3.2)).bind fun q6 => some (some (.int q6.1), q6.2)))))) := by
  have e : rv_EV 157 [.ref p, .int n1, .int n2] w = rv_GO rc_X5_kindFor 0 [some (.ref p), some (.int n1), some (.int n2), none, none, none, none, none, none] [] w := by
    show cond ((rv_obj w p 4).isSome && true) _ _ = _
    rw [hp]
    rfl
  rw [e, ← rv_blk_eq [51, 91] 29]
  rfl
set_option maxRecDepth 100000 in
set_option maxHeartbeats 4000000 in
theorem bk_X5_kindFor_51 (v0 : Nat) (v1 : Int32) (v2 : Int32) (v3 : Int32) (v4 : Int32) (v5 : Int32) (v6 : Int32) (v7 : Int32) (w : rv_W) : rv_GO rc_X5_kindFor 51 [some (.ref v0), some (.int v1), some (.int v2), some (.int v3), some (.int v4), some (.int v5), some (.int v6), some (.int v7), none] [] w = (bif rv_cnd .gt v7 6 then ((rv_ldFR w v0 4 0).bind fun a1 => ((rv_stI w a1 v3 v4).bind fun w2 => some (some (.int v5), w2))) else ((rv_ldFR w v0 4 0).bind fun a3 => ((rv_stI w a3 v3 v7).bind fun w4 => ((rv_ri (rv_EV 147 [.ref v0, .int v1, .int v2] w4)).bind fun q5 => ((rv_ri (rv_EV 116 [.int q5.1] q5.2)).bind fun q6 => (bif rv_cnd .le q6.1 v6 then rv_GO rc_X5_kindFor 91 [some (.ref v0), some (.int v1), some (.int v2), some (.int v3), some (.int v4), none, some (.int v6), some (.int v7), some (.int q6.1)] [.int v5] q6.2 else rv_GO rc_X5_kindFor 91 [some (.ref v0), some (.int v1), some (.int v2), some (.int v3), some (.int v4), none, some (.int v6), some (.int v7), some (.int q6.1)] [.int v7] q6.2)))))) := by
  rw [← rv_blk_eq [51, 91] 21]
  rfl
set_option maxRecDepth 100000 in
set_option maxHeartbeats 4000000 in
theorem bk_X5_kindFor_91 (v0 : Nat) (v1 : Int32) (v2 : Int32) (v3 : Int32) (v4 : Int32) (v6 : Int32) (v7 : Int32) (v8 : Int32) (s0 : Int32) (w : rv_W) : rv_GO rc_X5_kindFor 91 [some (.ref v0), some (.int v1), some (.int v2), some (.int v3), some (.int v4), none, some (.int v6), some (.int v7), some (.int v8)] [.int s0] w = (bif rv_cnd .le v8 v6 then rv_GO rc_X5_kindFor 51 [some (.ref v0), some (.int v1), some (.int v2), some (.int v3), some (.int v4), some (.int s0), some (.int v6), some (.int (v7 + 1)), none] [] w else rv_GO rc_X5_kindFor 51 [some (.ref v0), some (.int v1), some (.int v2), some (.int v3), some (.int v4), some (.int s0), some (.int v8), some (.int (v7 + 1)), none] [] w) := by
  rw [← rv_blk_eq [51, 91] 11]
  rfl
set_option maxRecDepth 100000 in
set_option maxHeartbeats 4000000 in
theorem ev_X5_coldest (p : Nat) (w : rv_W) (hp : (rv_obj w p 4).isSome = true) : rv_EV 158 [.ref p] w = ((rv_ldFR w p 4 0).bind fun a1 => ((rv_ldI w a1 4).bind fun x2 => rv_GO rc_X5_coldest 9 [some (.ref p), some (.int x2), some (.int 1)] [] w)) := by
  have e : rv_EV 158 [.ref p] w = rv_GO rc_X5_coldest 0 [some (.ref p), none, none] [] w := by
    show cond ((rv_obj w p 4).isSome && true) _ _ = _
    rw [hp]
    rfl
  rw [e, ← rv_blk_eq [9] 9]
  rfl
set_option maxRecDepth 100000 in
set_option maxHeartbeats 4000000 in
theorem bk_X5_coldest_9 (v0 : Nat) (v1 : Int32) (v2 : Int32) (w : rv_W) : rv_GO rc_X5_coldest 9 [some (.ref v0), some (.int v1), some (.int v2)] [] w = (bif rv_cnd .ge v2 10 then some (some (.int v1), w) else ((rv_ldFR w v0 4 0).bind fun a1 => ((rv_ldI w a1 (4 + v2)).bind fun x2 => (bif rv_cnd .ge x2 v1 then rv_GO rc_X5_coldest 9 [some (.ref v0), some (.int v1), some (.int (v2 + 1))] [] w else ((rv_ldFR w v0 4 0).bind fun a3 => ((rv_ldI w a3 (4 + v2)).bind fun x4 => rv_GO rc_X5_coldest 9 [some (.ref v0), some (.int x4), some (.int (v2 + 1))] [] w)))))) := by
  rw [← rv_blk_eq [9] 23]
  rfl
set_option maxRecDepth 100000 in
set_option maxHeartbeats 4000000 in
theorem ev_X5_freshFor (p : Nat) (n1 : Int32) (n2 : Int32) (w : rv_W) (hp : (rv_obj w p 4).isSome = true) : rv_EV 159 [.ref p, .int n1, .int n2] w = ((rv_ri (rv_EV 107 [.long (Int32.toInt64 n1), .long (Int32.toInt64 0), .long (Int32.toInt64 99)] w)).bind fun q1 => (bif rv_cnd .eq q1.1 0 then ((rv_ri (rv_EV 108 [.ref p, .int (-1000001)] q1.2)).bind fun q2 => some (some (.int q2.1), q2.2)) else ((rv_ri (rv_EV 107 [.long (Int32.toInt64 n2), .long (Int32.toInt64 0), .long (Int32.toInt64 40)] q1.2)).bind fun q3 => (bif rv_cnd .ne q3.1 0 then rv_GO rc_X5_freshFor 36 [some (.ref p), some (.int n1), some (.int n2), some (.int (-1)), some (.int 0)] [] q3.2 else ((rv_ri (rv_EV 108 [.ref p, .int (-1000001)] q3.2)).bind fun q4 => some (some (.int q4.1), q4.2)))))) := by
  have e : rv_EV 159 [.ref p, .int n1, .int n2] w = rv_GO rc_X5_freshFor 0 [some (.ref p), some (.int n1), some (.int n2), none, none] [] w := by
    show cond ((rv_obj w p 4).isSome && true) _ _ = _
    rw [hp]
    rfl
  rw [e, ← rv_blk_eq [36, 85] 18]
  rfl
set_option maxRecDepth 100000 in
set_option maxHeartbeats 4000000 in
theorem bk_X5_freshFor_36 (v0 : Nat) (v1 : Int32) (v2 : Int32) (v3 : Int32) (v4 : Int32) (w : rv_W) : rv_GO rc_X5_freshFor 36 [some (.ref v0), some (.int v1), some (.int v2), some (.int v3), some (.int v4)] [] w = (bif rv_cnd .gt v4 99 then ((rv_ri (rv_EV 115 [.ref v0, .int v3] w)).bind fun q1 => some (some (.int q1.1), q1.2)) else (bif rv_cnd .ge v3 0 then ((rv_ri (rv_EV 115 [.ref v0, .int v3] w)).bind fun q2 => some (some (.int q2.1), q2.2)) else ((rv_ldFR w v0 4 0).bind fun a3 => ((rv_ldFR w v0 4 3).bind fun a4 => ((rv_rv (rv_EV 110 [.ref a3, .ref a4] w)).bind fun q5 => ((rv_ldFR q5 v0 4 0).bind fun a6 => ((rv_stI q5 a6 2 v4).bind fun w7 => ((rv_rv (rv_EV 139 [.ref v0, .int v2] w7)).bind fun q8 => ((rv_ri (rv_EV 158 [.ref v0] q8)).bind fun q9 => (bif rv_cnd .lt q9.1 v1 then rv_GO rc_X5_freshFor 85 [some (.ref v0), some (.int v1), some (.int v2), none, some (.int v4)] [.int (-1)] q9.2 else rv_GO rc_X5_freshFor 85 [some (.ref v0), some (.int v1), some (.int v2), none, some (.int v4)] [.int v4] q9.2)))))))))) := by
  rw [← rv_blk_eq [36, 85] 26]
  rfl
set_option maxRecDepth 100000 in
set_option maxHeartbeats 4000000 in
theorem bk_X5_freshFor_85 (v0 : Nat) (v1 : Int32) (v2 : Int32) (v4 : Int32) (s0 : Int32) (w : rv_W) : rv_GO rc_X5_freshFor 85 [some (.ref v0), some (.int v1), some (.int v2), none, some (.int v4)] [.int s0] w = ((rv_ldFR w v0 4 3).bind fun a1 => ((rv_ldFR w v0 4 0).bind fun a2 => ((rv_rv (rv_EV 110 [.ref a1, .ref a2] w)).bind fun q3 => rv_GO rc_X5_freshFor 36 [some (.ref v0), some (.int v1), some (.int v2), some (.int s0), some (.int (v4 + 1))] [] q3))) := by
  rw [← rv_blk_eq [36, 85] 10]
  rfl
set_option maxRecDepth 100000 in
set_option maxHeartbeats 4000000 in
theorem ev_X5_isHidden (p : Nat) (n1 : Int32) (n2 : Int32) (n3 : Int32) (w : rv_W) (hp : (rv_obj w p 4).isSome = true) : rv_EV 160 [.ref p, .int n1, .int n2, .int n3] w = ((rv_ldFR w p 4 0).bind fun a1 => ((rv_ldFR w p 4 3).bind fun a2 => ((rv_rv (rv_EV 110 [.ref a1, .ref a2] w)).bind fun q3 => rv_GO rc_X5_isHidden 20 [some (.ref p), some (.int n1), some (.int n2), some (.int n3), none, none, some (.int 1), some (.int 0), none] [] q3))) := by
  have e : rv_EV 160 [.ref p, .int n1, .int n2, .int n3] w = rv_GO rc_X5_isHidden 0 [some (.ref p), some (.int n1), some (.int n2), some (.int n3), none, none, none, none, none] [] w := by
    show cond ((rv_obj w p 4).isSome && true) _ _ = _
    rw [hp]
    rfl
  rw [e, ← rv_blk_eq [20, 41] 13]
  rfl
set_option maxRecDepth 100000 in
set_option maxHeartbeats 4000000 in
theorem bk_X5_isHidden_20 (v0 : Nat) (v1 : Int32) (v2 : Int32) (v3 : Int32) (v6 : Int32) (v7 : Int32) (w : rv_W) : rv_GO rc_X5_isHidden 20 [some (.ref v0), some (.int v1), some (.int v2), some (.int v3), none, none, some (.int v6), some (.int v7), none] [] w = (bif rv_cnd .ge v7 v2 then ((rv_ldFR w v0 4 3).bind fun a1 => ((rv_ldFR w v0 4 0).bind fun a2 => ((rv_rv (rv_EV 110 [.ref a1, .ref a2] w)).bind fun q3 => (bif rv_bz v6 then some (some (.int v6), q3) else none)))) else (bif rv_cnd .eq v6 0 then ((rv_ldFR w v0 4 3).bind fun a4 => ((rv_ldFR w v0 4 0).bind fun a5 => ((rv_rv (rv_EV 110 [.ref a4, .ref a5] w)).bind fun q6 => (bif rv_bz v6 then some (some (.int v6), q6) else none)))) else ((rv_rl (rv_EV 138 [.ref v0, .int v3] w)).bind fun q7 => rv_GO rc_X5_isHidden 41 [some (.ref v0), some (.int v1), some (.int v2), some (.int v3), some (.long q7.1), none, some (.int v6), some (.int v7), some (.int 0)] [] q7.2))) := by
  rw [← rv_blk_eq [20, 41] 13]
  rfl
set_option maxRecDepth 100000 in
set_option maxHeartbeats 4000000 in
theorem bk_X5_isHidden_41 (v0 : Nat) (v1 : Int32) (v2 : Int32) (v3 : Int32) (v4 : Int64) (v6 : Int32) (v7 : Int32) (v8 : Int32) (w : rv_W) : rv_GO rc_X5_isHidden 41 [some (.ref v0), some (.int v1), some (.int v2), some (.int v3), some (.long v4), none, some (.int v6), some (.int v7), some (.int v8)] [] w = (bif rv_cnd .ge v8 8 then rv_GO rc_X5_isHidden 20 [some (.ref v0), some (.int v1), some (.int v2), some (.int v3), none, none, some (.int v6), some (.int (v7 + 1)), none] [] w else (bif rv_cnd .ne (lg_cmp ((v4 >>> (Int32.toInt64 ((4 * v8) + v1) &&& 63)) &&& (Int32.toInt64 1)) (Int32.toInt64 0)) 0 then rv_GO rc_X5_isHidden 41 [some (.ref v0), some (.int v1), some (.int v2), some (.int v3), some (.long v4), none, some (.int (v6 &&& 0)), some (.int v7), some (.int (v8 + 1))] [] w else rv_GO rc_X5_isHidden 41 [some (.ref v0), some (.int v1), some (.int v2), some (.int v3), some (.long v4), none, some (.int (v6 &&& 1)), some (.int v7), some (.int (v8 + 1))] [] w)) := by
  rw [← rv_blk_eq [20, 41] 24]
  rfl
set_option maxRecDepth 100000 in
set_option maxHeartbeats 4000000 in
theorem ev_X5_hides (p : Nat) (n1 : Int32) (n2 : Int32) (n3 : Int32) (n4 : Int32) (w : rv_W) (hp : (rv_obj w p 4).isSome = true) : rv_EV 161 [.ref p, .int n1, .int n2, .int n3, .int n4] w = ((rv_ri (rv_EV 111 [.int n1] w)).bind fun q1 => (bif rv_cnd .eq q1.1 0 then ((rv_ri (rv_EV 108 [.ref p, .int (-1000001)] q1.2)).bind fun q2 => some (some (.int q2.1), q2.2)) else ((rv_ri (rv_EV 112 [.int n2] q1.2)).bind fun q3 => (bif rv_cnd .eq q3.1 0 then ((rv_ri (rv_EV 108 [.ref p, .int (-1000001)] q3.2)).bind fun q4 => some (some (.int q4.1), q4.2)) else ((rv_ri (rv_EV 112 [.int n3] q3.2)).bind fun q5 => (bif rv_cnd .eq q5.1 0 then ((rv_ri (rv_EV 108 [.ref p, .int (-1000001)] q5.2)).bind fun q6 => some (some (.int q6.1), q6.2)) else (bif rv_cnd .eq n2 n3 then ((rv_ri (rv_EV 108 [.ref p, .int (-1000001)] q5.2)).bind fun q7 => some (some (.int q7.1), q7.2)) else ((rv_ri (rv_EV 107 [.long (Int32.toInt64 n4), .long (Int32.toInt64 0), .long (Int32.toInt64 20)] q5.2)).bind fun q8 => (bif rv_cnd .ne q8.1 0 then ((rv_ri (rv_EV 118 [.int n1, .int n2] q8.2)).bind fun q9 => ((rv_ldFR q9.2 p 4 0).bind fun a10 => ((rv_ldI q9.2 a10 q9.1).bind fun x11 => rv_GO rc_X5_hides 62 [some (.ref p), none, none, some (.int n3), some (.int n4), some (.int q9.1), some (.int x11), none, none] [] q9.2))) else ((rv_ri (rv_EV 108 [.ref p, .int (-1000001)] q8.2)).bind fun q12 => some (some (.int q12.1), q12.2))))))))))) := by
  have e : rv_EV 161 [.ref p, .int n1, .int n2, .int n3, .int n4] w = rv_GO rc_X5_hides 0 [some (.ref p), some (.int n1), some (.int n2), some (.int n3), some (.int n4), none, none, none, none] [] w := by
    show cond ((rv_obj w p 4).isSome && true) _ _ = _
    rw [hp]
    rfl
  rw [e, ← rv_blk_eq [62, 101, 131] 29]
  rfl
set_option maxRecDepth 100000 in
set_option maxHeartbeats 4000000 in
theorem bk_X5_hides_62 (v0 : Nat) (v3 : Int32) (v4 : Int32) (v5 : Int32) (v6 : Int32) (w : rv_W) : rv_GO rc_X5_hides 62 [some (.ref v0), none, none, some (.int v3), some (.int v4), some (.int v5), some (.int v6), none, none] [] w = ((rv_ldFR w v0 4 0).bind fun a1 => ((rv_ldI w a1 v5).bind fun x2 => (bif rv_cnd .gt x2 9999 then rv_GO rc_X5_hides 101 [some (.ref v0), none, none, none, none, some (.int v5), some (.int v6), none, none] [] w else ((rv_ri (rv_EV 160 [.ref v0, .int v3, .int v4, .int 0] w)).bind fun q3 => (bif rv_cnd .ne q3.1 0 then rv_GO rc_X5_hides 101 [some (.ref v0), none, none, none, none, some (.int v5), some (.int v6), none, none] [] q3.2 else ((rv_ldFR q3.2 v0 4 0).bind fun a4 => ((rv_ldI q3.2 a4 v5).bind fun x5 => ((rv_stI q3.2 a4 v5 (x5 + 10)).bind fun w6 => rv_GO rc_X5_hides 62 [some (.ref v0), none, none, some (.int v3), some (.int v4), some (.int v5), some (.int v6), none, none] [] w6)))))))) := by
  rw [← rv_blk_eq [62, 101, 131] 23]
  rfl
set_option maxRecDepth 100000 in
set_option maxHeartbeats 4000000 in
theorem bk_X5_hides_101 (v0 : Nat) (v5 : Int32) (v6 : Int32) (w : rv_W) : rv_GO rc_X5_hides 101 [some (.ref v0), none, none, none, none, some (.int v5), some (.int v6), none, none] [] w = ((rv_ldFR w v0 4 0).bind fun a1 => ((rv_ldI w a1 v5).bind fun x2 => ((rv_ldFR w v0 4 0).bind fun a3 => ((rv_ldI w a3 v5).bind fun x4 => (bif rv_cnd .gt x4 9999 then rv_GO rc_X5_hides 131 [some (.ref v0), none, none, none, none, some (.int v5), some (.int v6), some (.int (x2 - v6)), none] [.int 0] w else rv_GO rc_X5_hides 131 [some (.ref v0), none, none, none, none, some (.int v5), some (.int v6), some (.int (x2 - v6)), none] [.int 1] w))))) := by
  rw [← rv_blk_eq [62, 101, 131] 17]
  rfl
set_option maxRecDepth 100000 in
set_option maxHeartbeats 4000000 in
theorem bk_X5_hides_131 (v0 : Nat) (v5 : Int32) (v6 : Int32) (v7 : Int32) (s0 : Int32) (w : rv_W) : rv_GO rc_X5_hides 131 [some (.ref v0), none, none, none, none, some (.int v5), some (.int v6), some (.int v7), none] [.int s0] w = ((rv_ldFR w v0 4 0).bind fun a1 => ((rv_stI w a1 v5 v6).bind fun w2 => (bif rv_cnd .eq s0 0 then ((rv_ri (rv_EV 108 [.ref v0, .int (-1000004)] w2)).bind fun q3 => some (some (.int q3.1), q3.2)) else some (some (.int v7), w2)))) := by
  rw [← rv_blk_eq [62, 101, 131] 13]
  rfl
set_option maxRecDepth 100000 in
set_option maxHeartbeats 4000000 in
theorem ev_X5_leave (p : Nat) (n1 : Int32) (n2 : Int32) (w : rv_W) (hp : (rv_obj w p 4).isSome = true) : rv_EV 162 [.ref p, .int n1, .int n2] w = ((rv_ri (rv_EV 112 [.int n1] w)).bind fun q1 => (bif rv_cnd .eq q1.1 0 then ((rv_ri (rv_EV 108 [.ref p, .int (-1000001)] q1.2)).bind fun q2 => some (some (.int q2.1), q2.2)) else ((rv_ri (rv_EV 107 [.long (Int32.toInt64 n2), .long (Int32.toInt64 0), .long (Int32.toInt64 20)] q1.2)).bind fun q3 => (bif rv_cnd .ne q3.1 0 then rv_GO rc_X5_leave 31 [some (.ref p), some (.int n1), some (.int n2), some (.int (-1)), some (.int 0)] [] q3.2 else ((rv_ri (rv_EV 108 [.ref p, .int (-1000001)] q3.2)).bind fun q4 => some (some (.int q4.1), q4.2)))))) := by
  have e : rv_EV 162 [.ref p, .int n1, .int n2] w = rv_GO rc_X5_leave 0 [some (.ref p), some (.int n1), some (.int n2), none, none] [] w := by
    show cond ((rv_obj w p 4).isSome && true) _ _ = _
    rw [hp]
    rfl
  rw [e, ← rv_blk_eq [31, 60] 15]
  rfl
set_option maxRecDepth 100000 in
set_option maxHeartbeats 4000000 in
theorem bk_X5_leave_31 (v0 : Nat) (v1 : Int32) (v2 : Int32) (v3 : Int32) (v4 : Int32) (w : rv_W) : rv_GO rc_X5_leave 31 [some (.ref v0), some (.int v1), some (.int v2), some (.int v3), some (.int v4)] [] w = ((rv_ldFR w v0 4 0).bind fun a1 => ((rv_ldI w a1 0).bind fun x2 => (bif rv_cnd .ge v4 (1 <<< (x2 &&& 31)) then some (some (.int v3), w) else (bif rv_cnd .lt v3 0 then rv_GO rc_X5_leave 60 [some (.ref v0), some (.int v1), some (.int v2), some (.int v3), some (.int v4)] [] w else ((rv_ri (rv_EV 116 [.int v4] w)).bind fun q3 => ((rv_ri (rv_EV 116 [.int v3] q3.2)).bind fun q4 => (bif rv_cnd .ge q3.1 q4.1 then rv_GO rc_X5_leave 31 [some (.ref v0), some (.int v1), some (.int v2), some (.int v3), some (.int (v4 + 1))] [] q4.2 else rv_GO rc_X5_leave 60 [some (.ref v0), some (.int v1), some (.int v2), some (.int v3), some (.int v4)] [] q4.2))))))) := by
  rw [← rv_blk_eq [31, 60] 21]
  rfl
set_option maxRecDepth 100000 in
set_option maxHeartbeats 4000000 in
theorem bk_X5_leave_60 (v0 : Nat) (v1 : Int32) (v2 : Int32) (v3 : Int32) (v4 : Int32) (w : rv_W) : rv_GO rc_X5_leave 60 [some (.ref v0), some (.int v1), some (.int v2), some (.int v3), some (.int v4)] [] w = ((rv_ri (rv_EV 160 [.ref v0, .int v1, .int v2, .int v4] w)).bind fun q1 => (bif rv_cnd .eq q1.1 0 then rv_GO rc_X5_leave 31 [some (.ref v0), some (.int v1), some (.int v2), some (.int v3), some (.int (v4 + 1))] [] q1.2 else rv_GO rc_X5_leave 31 [some (.ref v0), some (.int v1), some (.int v2), some (.int v4), some (.int (v4 + 1))] [] q1.2)) := by
  rw [← rv_blk_eq [31, 60] 13]
  rfl
set_option maxRecDepth 100000 in
set_option maxHeartbeats 4000000 in
theorem ev_X5_plugFor (p : Nat) (n1 : Int32) (n2 : Int32) (w : rv_W) (hp : (rv_obj w p 4).isSome = true) : rv_EV 163 [.ref p, .int n1, .int n2] w = ((rv_ri (rv_EV 112 [.int n1] w)).bind fun q1 => (bif rv_cnd .eq q1.1 0 then ((rv_ri (rv_EV 108 [.ref p, .int (-1000001)] q1.2)).bind fun q2 => some (some (.int q2.1), q2.2)) else ((rv_ri (rv_EV 107 [.long (Int32.toInt64 n2), .long (Int32.toInt64 0), .long (Int32.toInt64 40)] q1.2)).bind fun q3 => (bif rv_cnd .ne q3.1 0 then rv_GO rc_X5_plugFor 35 [some (.ref p), some (.int n1), some (.int n2), some (.int 0), some (.int 9), some (.int 0), none, none, none] [] q3.2 else ((rv_ri (rv_EV 108 [.ref p, .int (-1000001)] q3.2)).bind fun q4 => some (some (.int q4.1), q4.2)))))) := by
  have e : rv_EV 163 [.ref p, .int n1, .int n2] w = rv_GO rc_X5_plugFor 0 [some (.ref p), some (.int n1), some (.int n2), none, none, none, none, none, none] [] w := by
    show cond ((rv_obj w p 4).isSome && true) _ _ = _
    rw [hp]
    rfl
  rw [e, ← rv_blk_eq [35, 72, 129] 17]
  rfl
set_option maxRecDepth 100000 in
set_option maxHeartbeats 4000000 in
theorem bk_X5_plugFor_35 (v0 : Nat) (v1 : Int32) (v2 : Int32) (v3 : Int32) (v4 : Int32) (v5 : Int32) (w : rv_W) : rv_GO rc_X5_plugFor 35 [some (.ref v0), some (.int v1), some (.int v2), some (.int v3), some (.int v4), some (.int v5), none, none, none] [] w = (bif rv_cnd .ge v5 10 then some (some (.int v3), w) else ((rv_ldFR w v0 4 0).bind fun a1 => ((rv_ldFR w v0 4 3).bind fun a2 => ((rv_rv (rv_EV 110 [.ref a1, .ref a2] w)).bind fun q3 => ((rv_ri (rv_EV 124 [.ref v0, .int v5] q3)).bind fun q4 => ((rv_rv (rv_EV 139 [.ref v0, .int v2] q4.2)).bind fun q5 => rv_GO rc_X5_plugFor 72 [some (.ref v0), some (.int v1), some (.int v2), some (.int v3), some (.int v4), some (.int v5), none, some (.int 0), some (.int 0)] [] q5)))))) := by
  rw [← rv_blk_eq [35, 72, 129] 21]
  rfl
set_option maxRecDepth 100000 in
set_option maxHeartbeats 4000000 in
theorem bk_X5_plugFor_72 (v0 : Nat) (v1 : Int32) (v2 : Int32) (v3 : Int32) (v4 : Int32) (v5 : Int32) (v7 : Int32) (v8 : Int32) (w : rv_W) : rv_GO rc_X5_plugFor 72 [some (.ref v0), some (.int v1), some (.int v2), some (.int v3), some (.int v4), some (.int v5), none, some (.int v7), some (.int v8)] [] w = ((rv_ldFR w v0 4 0).bind fun a1 => ((rv_ldI w a1 0).bind fun x2 => (bif rv_cnd .ge v8 x2 then ((rv_ldFR w v0 4 3).bind fun a3 => ((rv_ldFR w v0 4 0).bind fun a4 => ((rv_rv (rv_EV 110 [.ref a3, .ref a4] w)).bind fun q5 => (bif rv_cnd .ge v7 v4 then rv_GO rc_X5_plugFor 129 [some (.ref v0), some (.int v1), some (.int v2), none, some (.int v4), some (.int v5), none, some (.int v7), none] [.int v3] q5 else rv_GO rc_X5_plugFor 129 [some (.ref v0), some (.int v1), some (.int v2), none, some (.int v4), some (.int v5), none, some (.int v7), none] [.int v5] q5)))) else ((rv_ri (rv_EV 114 [.ref v0, .int v8, .int 3] w)).bind fun q6 => rv_GO rc_X5_plugFor 72 [some (.ref v0), some (.int v1), some (.int v2), some (.int v3), some (.int v4), some (.int v5), none, some (.int (v7 + ((q6.1 >>> (v1 &&& 31)) &&& 1))), some (.int (v8 + 1))] [] q6.2)))) := by
  rw [← rv_blk_eq [35, 72, 129] 21]
  rfl
set_option maxRecDepth 100000 in
set_option maxHeartbeats 4000000 in
theorem bk_X5_plugFor_129 (v0 : Nat) (v1 : Int32) (v2 : Int32) (v4 : Int32) (v5 : Int32) (v7 : Int32) (s0 : Int32) (w : rv_W) : rv_GO rc_X5_plugFor 129 [some (.ref v0), some (.int v1), some (.int v2), none, some (.int v4), some (.int v5), none, some (.int v7), none] [.int s0] w = (bif rv_cnd .ge v7 v4 then rv_GO rc_X5_plugFor 35 [some (.ref v0), some (.int v1), some (.int v2), some (.int s0), some (.int v4), some (.int (v5 + 1)), none, none, none] [] w else rv_GO rc_X5_plugFor 35 [some (.ref v0), some (.int v1), some (.int v2), some (.int s0), some (.int v7), some (.int (v5 + 1)), none, none, none] [] w) := by
  rw [← rv_blk_eq [35, 72, 129] 11]
  rfl
set_option maxRecDepth 100000 in
set_option maxHeartbeats 4000000 in
theorem ev_X5_isTold (p : Nat) (n1 : Int32) (w : rv_W) (hp : (rv_obj w p 4).isSome = true) : rv_EV 164 [.ref p, .int n1] w = ((rv_ldFR w p 4 0).bind fun a1 => ((rv_ldFR w p 4 3).bind fun a2 => ((rv_rv (rv_EV 110 [.ref a1, .ref a2] w)).bind fun q3 => rv_GO rc_X5_isTold 15 [some (.ref p), some (.int n1), some (.int 1), some (.int 0), none] [] q3))) := by
  have e : rv_EV 164 [.ref p, .int n1] w = rv_GO rc_X5_isTold 0 [some (.ref p), some (.int n1), none, none, none] [] w := by
    show cond ((rv_obj w p 4).isSome && true) _ _ = _
    rw [hp]
    rfl
  rw [e, ← rv_blk_eq [15] 11]
  rfl
set_option maxRecDepth 100000 in
set_option maxHeartbeats 4000000 in
theorem bk_X5_isTold_15 (v0 : Nat) (v1 : Int32) (v2 : Int32) (v3 : Int32) (w : rv_W) : rv_GO rc_X5_isTold 15 [some (.ref v0), some (.int v1), some (.int v2), some (.int v3), none] [] w = ((rv_ldFR w v0 4 9).bind fun a1 => ((rv_ldI w a1 v1).bind fun x2 => (bif rv_cnd .ge v3 x2 then ((rv_ldFR w v0 4 3).bind fun a3 => ((rv_ldFR w v0 4 0).bind fun a4 => ((rv_rv (rv_EV 110 [.ref a3, .ref a4] w)).bind fun q5 => (bif rv_bz v2 then some (some (.int v2), q5) else none)))) else (bif rv_cnd .eq v2 0 then ((rv_ldFR w v0 4 3).bind fun a6 => ((rv_ldFR w v0 4 0).bind fun a7 => ((rv_rv (rv_EV 110 [.ref a6, .ref a7] w)).bind fun q8 => (bif rv_bz v2 then some (some (.int v2), q8) else none)))) else ((rv_ldFR w v0 4 10).bind fun a9 => ((rv_ldI w a9 ((40 * v1) + v3)).bind fun x10 => (bif rv_cnd .eq x10 (-1) then ((rv_rv (rv_EV 139 [.ref v0, .int 1] w)).bind fun q11 => rv_GO rc_X5_isTold 15 [some (.ref v0), some (.int v1), some (.int 1), some (.int (v3 + 1)), none] [] q11) else ((rv_ldFR w v0 4 0).bind fun a12 => ((rv_ri (rv_EV 118 [.int 9, .int 0] w)).bind fun q13 => ((rv_ldI q13.2 a12 q13.1).bind fun x14 => (bif rv_cnd .ne x10 x14 then ((rv_rv (rv_EV 139 [.ref v0, .int 1] q13.2)).bind fun q15 => rv_GO rc_X5_isTold 15 [some (.ref v0), some (.int v1), some (.int 0), some (.int (v3 + 1)), none] [] q15) else ((rv_rv (rv_EV 139 [.ref v0, .int 1] q13.2)).bind fun q16 => rv_GO rc_X5_isTold 15 [some (.ref v0), some (.int v1), some (.int 1), some (.int (v3 + 1)), none] [] q16)))))))))))) := by
  rw [← rv_blk_eq [15] 38]
  rfl
set_option maxRecDepth 100000 in
set_option maxHeartbeats 4000000 in
theorem ev_X5_couldBe (p : Nat) (n1 : Int32) (n2 : Int32) (n3 : Int32) (w : rv_W) (hp : (rv_obj w p 4).isSome = true) : rv_EV 165 [.ref p, .int n1, .int n2, .int n3] w = ((rv_ldFR w p 4 0).bind fun a1 => ((rv_ldI w a1 ((54 + (4 * n2)) + n3)).bind fun x2 => rv_GO rc_X5_couldBe 25 [some (.ref p), some (.int n1), none, some (.int n3), some (.int ((54 + (4 * n2)) + n3)), some (.int x2), some (.int 0), some (.int 0)] [] w)) := by
  have e : rv_EV 165 [.ref p, .int n1, .int n2, .int n3] w = rv_GO rc_X5_couldBe 0 [some (.ref p), some (.int n1), some (.int n2), some (.int n3), none, none, none, none] [] w := by
    show cond ((rv_obj w p 4).isSome && true) _ _ = _
    rw [hp]
    rfl
  rw [e, ← rv_blk_eq [25] 19]
  rfl
set_option maxRecDepth 100000 in
set_option maxHeartbeats 4000000 in
theorem bk_X5_couldBe_25 (v0 : Nat) (v1 : Int32) (v3 : Int32) (v4 : Int32) (v5 : Int32) (v6 : Int32) (v7 : Int32) (w : rv_W) : rv_GO rc_X5_couldBe 25 [some (.ref v0), some (.int v1), none, some (.int v3), some (.int v4), some (.int v5), some (.int v6), some (.int v7)] [] w = ((rv_ri (rv_EV 133 [.int v3] w)).bind fun q1 => (bif rv_cnd .gt v7 q1.1 then ((rv_ldFR q1.2 v0 4 0).bind fun a2 => ((rv_stI q1.2 a2 v4 v5).bind fun w3 => some (some (.int v6), w3))) else ((rv_ldFR q1.2 v0 4 0).bind fun a4 => ((rv_stI q1.2 a4 v4 v7).bind fun w5 => ((rv_ri (rv_EV 164 [.ref v0, .int v1] w5)).bind fun q6 => (bif rv_cnd .eq q6.1 0 then rv_GO rc_X5_couldBe 25 [some (.ref v0), some (.int v1), none, some (.int v3), some (.int v4), some (.int v5), some (.int (v6 ||| 0)), some (.int (v7 + 1))] [] q6.2 else rv_GO rc_X5_couldBe 25 [some (.ref v0), some (.int v1), none, some (.int v3), some (.int v4), some (.int v5), some (.int (v6 ||| (1 <<< (v7 &&& 31)))), some (.int (v7 + 1))] [] q6.2)))))) := by
  rw [← rv_blk_eq [25] 24]
  rfl
set_option maxRecDepth 100000 in
set_option maxHeartbeats 4000000 in
theorem ev_X5_wantsFor (p : Nat) (n1 : Int32) (n2 : Int32) (w : rv_W) (hp : (rv_obj w p 4).isSome = true) : rv_EV 166 [.ref p, .int n1, .int n2] w = ((rv_ri (rv_EV 201 [.ref p, .int n1] w)).bind fun q1 => (bif rv_cnd .eq q1.1 0 then ((rv_ri (rv_EV 113 [.ref p, .int n2] q1.2)).bind fun q2 => (bif rv_cnd .eq q2.1 0 then some (some (.int (-1000001)), q2.2) else some (some (.int 0), q2.2))) else ((rv_ri (rv_EV 201 [.ref p, .int n1] q1.2)).bind fun q3 => some (some (.int q3.1), q3.2)))) := by
  have e : rv_EV 166 [.ref p, .int n1, .int n2] w = rv_GO rc_X5_wantsFor 0 [some (.ref p), some (.int n1), some (.int n2)] [] w := by
    show cond ((rv_obj w p 4).isSome && true) _ _ = _
    rw [hp]
    rfl
  rw [e, ← rv_blk_eq [] 12]
  rfl
set_option maxRecDepth 100000 in
set_option maxHeartbeats 4000000 in
theorem ev_X5_fits (p : Nat) (n1 : Int32) (n2 : Int32) (w : rv_W) (hp : (rv_obj w p 4).isSome = true) : rv_EV 167 [.ref p, .int n1, .int n2] w = ((rv_ri (rv_EV 166 [.ref p, .int n1, .int n2] w)).bind fun q1 => (bif rv_cnd .eq q1.1 0 then ((rv_ri (rv_EV 165 [.ref p, .int n1, .int n2, .int 2] q1.2)).bind fun q2 => some (some (.int q2.1), q2.2)) else ((rv_ri (rv_EV 108 [.ref p, .int q1.1] q1.2)).bind fun q3 => some (some (.int q3.1), q3.2)))) := by
  have e : rv_EV 167 [.ref p, .int n1, .int n2] w = rv_GO rc_X5_fits 0 [some (.ref p), some (.int n1), some (.int n2), none] [] w := by
    show cond ((rv_obj w p 4).isSome && true) _ _ = _
    rw [hp]
    rfl
  rw [e, ← rv_blk_eq [] 14]
  rfl
set_option maxRecDepth 100000 in
set_option maxHeartbeats 4000000 in
theorem ev_X5_kinds (p : Nat) (n1 : Int32) (n2 : Int32) (w : rv_W) (hp : (rv_obj w p 4).isSome = true) : rv_EV 168 [.ref p, .int n1, .int n2] w = ((rv_ri (rv_EV 166 [.ref p, .int n1, .int n2] w)).bind fun q1 => (bif rv_cnd .eq q1.1 0 then ((rv_ri (rv_EV 165 [.ref p, .int n1, .int n2, .int 0] q1.2)).bind fun q2 => some (some (.int q2.1), q2.2)) else ((rv_ri (rv_EV 108 [.ref p, .int q1.1] q1.2)).bind fun q3 => some (some (.int q3.1), q3.2)))) := by
  have e : rv_EV 168 [.ref p, .int n1, .int n2] w = rv_GO rc_X5_kinds 0 [some (.ref p), some (.int n1), some (.int n2), none] [] w := by
    show cond ((rv_obj w p 4).isSome && true) _ _ = _
    rw [hp]
    rfl
  rw [e, ← rv_blk_eq [] 14]
  rfl
set_option maxRecDepth 100000 in
set_option maxHeartbeats 4000000 in
theorem ev_X5_plugs (p : Nat) (n1 : Int32) (w : rv_W) (hp : (rv_obj w p 4).isSome = true) : rv_EV 169 [.ref p, .int n1] w = ((rv_ri (rv_EV 107 [.long (Int32.toInt64 n1), .long (Int32.toInt64 1), .long (Int32.toInt64 20)] w)).bind fun q1 => (bif rv_cnd .ne q1.1 0 then ((rv_ldFR q1.2 p 4 0).bind fun a2 => ((rv_ldI q1.2 a2 1).bind fun x3 => (bif rv_cnd .le (x3 + n1) 99999 then rv_GO rc_X5_plugs 41 [some (.ref p), some (.int n1), some (.int 0), none] [] q1.2 else ((rv_ri (rv_EV 108 [.ref p, .int (-1000005)] q1.2)).bind fun q4 => some (some (.int q4.1), q4.2))))) else ((rv_ri (rv_EV 108 [.ref p, .int (-1000001)] q1.2)).bind fun q5 => some (some (.int q5.1), q5.2)))) := by
  have e : rv_EV 169 [.ref p, .int n1] w = rv_GO rc_X5_plugs 0 [some (.ref p), some (.int n1), none, none] [] w := by
    show cond ((rv_obj w p 4).isSome && true) _ _ = _
    rw [hp]
    rfl
  rw [e, ← rv_blk_eq [41] 19]
  rfl
set_option maxRecDepth 100000 in
set_option maxHeartbeats 4000000 in
theorem bk_X5_plugs_41 (v0 : Nat) (v1 : Int32) (v2 : Int32) (w : rv_W) : rv_GO rc_X5_plugs 41 [some (.ref v0), some (.int v1), some (.int v2), none] [] w = (bif rv_cnd .ge v2 v1 then ((rv_ri (rv_EV 141 [.ref v0, .int 4, .int 10] w)).bind fun q1 => some (some (.int q1.1), q1.2)) else ((rv_ldFR w v0 4 0).bind fun a2 => ((rv_ldFR w v0 4 0).bind fun a3 => ((rv_ldI w a3 3).bind fun x4 => ((rv_stI w a2 3 ((x4 * 1103515245) + 12345)).bind fun w5 => ((rv_ldFR w5 v0 4 0).bind fun a6 => ((rv_ldI w5 a6 3).bind fun x7 => (bif rv_eq 10 0 then none else ((rv_ri (rv_EV 124 [.ref v0, .int ((Int32.toUInt32 x7 >>> (Int32.toUInt32 8 &&& Int32.toUInt32 31)).toInt32 - (Int32.toUInt32 x7 >>> (Int32.toUInt32 8 &&& Int32.toUInt32 31)).toInt32 / 10 * 10)] w5)).bind fun q8 => ((rv_rv (rv_EV 139 [.ref v0, .int 1] q8.2)).bind fun q9 => rv_GO rc_X5_plugs 41 [some (.ref v0), some (.int v1), some (.int (v2 + 1)), none] [] q9)))))))))) := by
  rw [← rv_blk_eq [41] 33]
  rfl
set_option maxRecDepth 100000 in
set_option maxHeartbeats 4000000 in
theorem ev_X5_odds (p : Nat) (n1 : Int32) (n2 : Int32) (w : rv_W) (hp : (rv_obj w p 4).isSome = true) : rv_EV 170 [.ref p, .int n1, .int n2] w = ((rv_ri (rv_EV 107 [.long (Int32.toInt64 n1), .long (Int32.toInt64 0), .long (Int32.toInt64 18)] w)).bind fun q1 => (bif rv_cnd .eq q1.1 0 then ((rv_ri (rv_EV 108 [.ref p, .int (-1000001)] q1.2)).bind fun q2 => some (some (.long (Int32.toInt64 q2.1)), q2.2)) else ((rv_ri (rv_EV 107 [.long (Int32.toInt64 n2), .long (Int32.toInt64 0), .long (Int32.toInt64 1)] q1.2)).bind fun q3 => (bif rv_cnd .ne q3.1 0 then rv_GO rc_X5_odds 35 [some (.ref p), some (.int n1), some (.int n2), some (.int 0), some (.int 0), none, none, none, none, none, none, none, none, none] [] q3.2 else ((rv_ri (rv_EV 108 [.ref p, .int (-1000001)] q3.2)).bind fun q4 => some (some (.long (Int32.toInt64 q4.1)), q4.2)))))) := by
  have e : rv_EV 170 [.ref p, .int n1, .int n2] w = rv_GO rc_X5_odds 0 [some (.ref p), some (.int n1), some (.int n2), none, none, none, none, none, none, none, none, none, none, none] [] w := by
    show cond ((rv_obj w p 4).isSome && true) _ _ = _
    rw [hp]
    rfl
  rw [e, ← rv_blk_eq [35, 74, 109] 18]
  rfl
set_option maxRecDepth 100000 in
set_option maxHeartbeats 4000000 in
theorem bk_X5_odds_35 (v0 : Nat) (v1 : Int32) (v2 : Int32) (v3 : Int32) (v4 : Int32) (w : rv_W) : rv_GO rc_X5_odds 35 [some (.ref v0), some (.int v1), some (.int v2), some (.int v3), some (.int v4), none, none, none, none, none, none, none, none, none] [] w = (bif rv_cnd .ge v4 10 then rv_GO rc_X5_odds 74 [none, some (.int v1), some (.int v2), some (.int v3), some (.long (Int32.toInt64 1)), none, some (.long (Int32.toInt64 1)), none, some (.int 0), none, none, none, none, none] [] w else ((rv_ri (rv_EV 121 [.ref v0, .int v4] w)).bind fun q1 => (bif rv_cnd .ne q1.1 0 then rv_GO rc_X5_odds 35 [some (.ref v0), some (.int v1), some (.int v2), some (.int (v3 + 0)), some (.int (v4 + 1)), none, none, none, none, none, none, none, none, none] [] q1.2 else rv_GO rc_X5_odds 35 [some (.ref v0), some (.int v1), some (.int v2), some (.int (v3 + 1)), some (.int (v4 + 1)), none, none, none, none, none, none, none, none, none] [] q1.2))) := by
  rw [← rv_blk_eq [35, 74, 109] 16]
  rfl
set_option maxRecDepth 100000 in
set_option maxHeartbeats 4000000 in
theorem bk_X5_odds_74 (v1 : Int32) (v2 : Int32) (v3 : Int32) (v4 : Int64) (v6 : Int64) (v8 : Int32) (w : rv_W) : rv_GO rc_X5_odds 74 [none, some (.int v1), some (.int v2), some (.int v3), some (.long v4), none, some (.long v6), none, some (.int v8), none, none, none, none, none] [] w = (bif rv_cnd .ge v8 v1 then rv_GO rc_X5_odds 109 [none, none, some (.int v2), none, some (.long v4), none, some (.long v6), none, some (.long v6), none, some (.long v4), none, none, none] [] w else rv_GO rc_X5_odds 74 [none, some (.int v1), some (.int v2), some (.int v3), some (.long (v4 * (Int32.toInt64 v3))), none, some (.long (v6 * (Int32.toInt64 10))), none, some (.int (v8 + 1)), none, none, none, none, none] [] w) := by
  rw [← rv_blk_eq [35, 74, 109] 16]
  rfl
set_option maxRecDepth 100000 in
set_option maxHeartbeats 4000000 in
theorem bk_X5_odds_109 (v2 : Int32) (v4 : Int64) (v6 : Int64) (v8 : Int64) (v10 : Int64) (w : rv_W) : rv_GO rc_X5_odds 109 [none, none, some (.int v2), none, some (.long v4), none, some (.long v6), none, some (.long v8), none, some (.long v10), none, none, none] [] w = (bif rv_cnd .eq (lg_cmp v10 (Int32.toInt64 0)) 0 then (bif rv_cnd .ne v2 0 then (bif rv_eqL v8 0 then none else some (some (.long (v6 / v8)), w)) else (bif rv_eqL v8 0 then none else some (some (.long (v4 / v8)), w))) else (bif rv_eqL v10 0 then none else rv_GO rc_X5_odds 109 [none, none, some (.int v2), none, some (.long v4), none, some (.long v6), none, some (.long v10), none, some (.long (v8 - v8 / v10 * v10)), none, none, none] [] w)) := by
  rw [← rv_blk_eq [35, 74, 109] 15]
  rfl
set_option maxRecDepth 100000 in
set_option maxHeartbeats 4000000 in
theorem ev_X5_seed (p : Nat) (n1 : Int32) (w : rv_W) (hp : (rv_obj w p 4).isSome = true) : rv_EV 171 [.ref p, .int n1] w = ((rv_ri (rv_EV 109 [.ref p, .int 3, .int n1] w)).bind fun q1 => some (some (.int q1.1), q1.2)) := by
  have e : rv_EV 171 [.ref p, .int n1] w = rv_GO rc_X5_seed 0 [some (.ref p), some (.int n1)] [] w := by
    show cond ((rv_obj w p 4).isSome && true) _ _ = _
    rw [hp]
    rfl
  rw [e, ← rv_blk_eq [] 6]
  rfl
set_option maxRecDepth 100000 in
set_option maxHeartbeats 4000000 in
theorem ev_X5_feed (p : Nat) (n1 : Int32) (n2 : Int32) (w : rv_W) (hp : (rv_obj w p 4).isSome = true) : rv_EV 172 [.ref p, .int n1, .int n2] w = ((rv_ri (rv_EV 107 [.long (Int32.toInt64 n2), .long (Int32.toInt64 1), .long (Int32.toInt64 4)] w)).bind fun q1 => (bif rv_cnd .ne q1.1 0 then ((rv_ldFI q1.2 p 4 7).bind fun x2 => (bif rv_cnd .le (x2 + n2) 120 then rv_GO rc_X5_feed 41 [some (.ref p), some (.int n1), none, some (.int (n2 - 1))] [] q1.2 else ((rv_ri (rv_EV 108 [.ref p, .int (-1000002)] q1.2)).bind fun q3 => some (some (.int q3.1), q3.2)))) else ((rv_ri (rv_EV 108 [.ref p, .int (-1000001)] q1.2)).bind fun q4 => some (some (.int q4.1), q4.2)))) := by
  have e : rv_EV 172 [.ref p, .int n1, .int n2] w = rv_GO rc_X5_feed 0 [some (.ref p), some (.int n1), some (.int n2), none] [] w := by
    show cond ((rv_obj w p 4).isSome && true) _ _ = _
    rw [hp]
    rfl
  rw [e, ← rv_blk_eq [41] 18]
  rfl
set_option maxRecDepth 100000 in
set_option maxHeartbeats 4000000 in
theorem bk_X5_feed_41 (v0 : Nat) (v1 : Int32) (v3 : Int32) (w : rv_W) : rv_GO rc_X5_feed 41 [some (.ref v0), some (.int v1), none, some (.int v3)] [] w = (bif rv_cnd .lt v3 0 then ((rv_ldFI w v0 4 7).bind fun x1 => some (some (.int x1), w)) else ((rv_ldFR w v0 4 6).bind fun a2 => ((rv_ldFI w v0 4 7).bind fun x3 => ((rv_stI w a2 x3 ((v1 >>> ((8 * v3) &&& 31)) &&& 255)).bind fun w4 => ((rv_ldFI w4 v0 4 7).bind fun x5 => ((rv_stF w4 v0 4 7 (.int (x5 + 1))).bind fun w6 => rv_GO rc_X5_feed 41 [some (.ref v0), some (.int v1), none, some (.int (v3 + (-1)))] [] w6)))))) := by
  rw [← rv_blk_eq [41] 24]
  rfl
set_option maxRecDepth 100000 in
set_option maxHeartbeats 4000000 in
theorem ev_X5_wipe (p : Nat) (w : rv_W) (hp : (rv_obj w p 4).isSome = true) : rv_EV 173 [.ref p] w = ((rv_ldFI w p 4 7).bind fun x1 => ((rv_stF w p 4 7 (.int 0)).bind fun w2 => some (some (.int x1), w2))) := by
  have e : rv_EV 173 [.ref p] w = rv_GO rc_X5_wipe 0 [some (.ref p), none] [] w := by
    show cond ((rv_obj w p 4).isSome && true) _ _ = _
    rw [hp]
    rfl
  rw [e, ← rv_blk_eq [] 9]
  rfl
set_option maxRecDepth 100000 in
set_option maxHeartbeats 4000000 in
theorem ev_X5_isLetter (n1 : Int32) (w : rv_W) : rv_EV 174 [.int n1] w = (bif rv_cnd .lt n1 97 then some (some (.int 0), w) else (bif rv_cnd .gt n1 122 then some (some (.int 0), w) else some (some (.int 1), w))) := by
  have e : rv_EV 174 [.int n1] w = rv_GO rc_X5_isLetter 0 [some (.int n1)] [] w := by
    rfl
  rw [e, ← rv_blk_eq [] 10]
  rfl
set_option maxRecDepth 100000 in
set_option maxHeartbeats 4000000 in
theorem ev_X5_isDigit (n1 : Int32) (w : rv_W) : rv_EV 175 [.int n1] w = (bif rv_cnd .lt n1 48 then some (some (.int 0), w) else (bif rv_cnd .gt n1 57 then some (some (.int 0), w) else some (some (.int 1), w))) := by
  have e : rv_EV 175 [.int n1] w = rv_GO rc_X5_isDigit 0 [some (.int n1)] [] w := by
    rfl
  rw [e, ← rv_blk_eq [] 10]
  rfl
set_option maxRecDepth 100000 in
set_option maxHeartbeats 4000000 in
theorem ev_X5_byteAt (p : Nat) (n1 : Int32) (w : rv_W) (hp : (rv_obj w p 4).isSome = true) : rv_EV 176 [.ref p, .int n1] w = ((rv_ldFI w p 4 7).bind fun x1 => (bif rv_cnd .ge n1 x1 then some (some (.int (-1)), w) else ((rv_ldFR w p 4 6).bind fun a2 => ((rv_ldI w a2 n1).bind fun x3 => some (some (.int x3), w))))) := by
  have e : rv_EV 176 [.ref p, .int n1] w = rv_GO rc_X5_byteAt 0 [some (.ref p), some (.int n1)] [] w := by
    show cond ((rv_obj w p 4).isSome && true) _ _ = _
    rw [hp]
    rfl
  rw [e, ← rv_blk_eq [] 11]
  rfl
set_option maxRecDepth 100000 in
set_option maxHeartbeats 4000000 in
theorem ev_X5_nextToken (p : Nat) (w : rv_W) (hp : (rv_obj w p 4).isSome = true) : rv_EV 177 [.ref p] w = ((rv_ldFI w p 4 13).bind fun x1 => ((rv_stF w p 4 12 (.int x1)).bind fun w2 => rv_GO rc_X5_nextToken 8 [some (.ref p), none] [] w2)) := by
  have e : rv_EV 177 [.ref p] w = rv_GO rc_X5_nextToken 0 [some (.ref p), none] [] w := by
    show cond ((rv_obj w p 4).isSome && true) _ _ = _
    rw [hp]
    rfl
  rw [e, ← rv_blk_eq [8, 101, 136, 195, 211] 6]
  rfl
set_option maxRecDepth 100000 in
set_option maxHeartbeats 4000000 in
theorem bk_X5_nextToken_8 (v0 : Nat) (w : rv_W) : rv_GO rc_X5_nextToken 8 [some (.ref v0), none] [] w = ((rv_ldFI w v0 4 12).bind fun x1 => ((rv_ri (rv_EV 176 [.ref v0, .int x1] w)).bind fun q2 => (bif rv_cnd .ne q2.1 32 then ((rv_ldFI q2.2 v0 4 12).bind fun x3 => ((rv_stF q2.2 v0 4 13 (.int x3)).bind fun w4 => ((rv_ldFI w4 v0 4 12).bind fun x5 => ((rv_ri (rv_EV 176 [.ref v0, .int x5] w4)).bind fun q6 => (bif rv_cnd .ge q6.1 0 then ((rv_ri (rv_EV 174 [.int q6.1] q6.2)).bind fun q7 => (bif rv_cnd .eq q7.1 0 then ((rv_ri (rv_EV 175 [.int q6.1] q7.2)).bind fun q8 => (bif rv_cnd .eq q8.1 0 then (bif rv_cnd .ne q6.1 59 then ((rv_stF q8.2 v0 4 11 (.int 4)).bind fun w9 => ((rv_stF w9 v0 4 14 (.int 0)).bind fun w10 => rv_GO rc_X5_nextToken 101 [some (.ref v0), none] [] w10)) else ((rv_stF q8.2 v0 4 11 (.int 3)).bind fun w11 => ((rv_stF w11 v0 4 14 (.int 0)).bind fun w12 => rv_GO rc_X5_nextToken 101 [some (.ref v0), none] [] w12))) else ((rv_stF q8.2 v0 4 11 (.int 2)).bind fun w13 => ((rv_stF w13 v0 4 14 (.int 0)).bind fun w14 => rv_GO rc_X5_nextToken 101 [some (.ref v0), none] [] w14)))) else ((rv_stF q7.2 v0 4 11 (.int 1)).bind fun w15 => ((rv_stF w15 v0 4 14 (.int 0)).bind fun w16 => rv_GO rc_X5_nextToken 101 [some (.ref v0), none] [] w16)))) else ((rv_stF q6.2 v0 4 11 (.int 0)).bind fun w17 => ((rv_stF w17 v0 4 14 (.int 0)).bind fun w18 => rv_GO rc_X5_nextToken 101 [some (.ref v0), none] [] w18))))))) else ((rv_ldFI q2.2 v0 4 12).bind fun x19 => ((rv_stF q2.2 v0 4 12 (.int (x19 + 1))).bind fun w20 => rv_GO rc_X5_nextToken 8 [some (.ref v0), none] [] w20))))) := by
  rw [← rv_blk_eq [8, 101, 136, 195, 211] 35]
  rfl
set_option maxRecDepth 100000 in
set_option maxHeartbeats 4000000 in
theorem bk_X5_nextToken_101 (v0 : Nat) (w : rv_W) : rv_GO rc_X5_nextToken 101 [some (.ref v0), none] [] w = ((rv_ldFI w v0 4 11).bind fun x1 => (bif rv_cnd .ne x1 1 then rv_GO rc_X5_nextToken 136 [some (.ref v0), none] [] w else ((rv_ldFI w v0 4 13).bind fun x2 => ((rv_ri (rv_EV 176 [.ref v0, .int x2] w)).bind fun q3 => ((rv_ri (rv_EV 174 [.int q3.1] q3.2)).bind fun q4 => (bif rv_cnd .eq q4.1 0 then rv_GO rc_X5_nextToken 136 [some (.ref v0), none] [] q4.2 else ((rv_ldFI q4.2 v0 4 13).bind fun x5 => ((rv_stF q4.2 v0 4 13 (.int (x5 + 1))).bind fun w6 => rv_GO rc_X5_nextToken 101 [some (.ref v0), none] [] w6)))))))) := by
  rw [← rv_blk_eq [8, 101, 136, 195, 211] 19]
  rfl
set_option maxRecDepth 100000 in
set_option maxHeartbeats 4000000 in
theorem bk_X5_nextToken_136 (v0 : Nat) (w : rv_W) : rv_GO rc_X5_nextToken 136 [some (.ref v0), none] [] w = ((rv_ldFI w v0 4 11).bind fun x1 => (bif rv_cnd .ne x1 2 then rv_GO rc_X5_nextToken 211 [some (.ref v0), none] [] w else ((rv_ldFI w v0 4 13).bind fun x2 => ((rv_ri (rv_EV 176 [.ref v0, .int x2] w)).bind fun q3 => ((rv_ri (rv_EV 175 [.int q3.1] q3.2)).bind fun q4 => (bif rv_cnd .eq q4.1 0 then rv_GO rc_X5_nextToken 211 [some (.ref v0), none] [] q4.2 else ((rv_ldFI q4.2 v0 4 14).bind fun x5 => (bif rv_cnd .le x5 9999 then ((rv_ldFI q4.2 v0 4 14).bind fun x6 => ((rv_ldFI q4.2 v0 4 13).bind fun x7 => ((rv_ri (rv_EV 176 [.ref v0, .int x7] q4.2)).bind fun q8 => rv_GO rc_X5_nextToken 195 [some (.ref v0), none] [.int (((10 * x6) + q8.1) - 48), .ref v0] q8.2))) else ((rv_ldFI q4.2 v0 4 14).bind fun x9 => rv_GO rc_X5_nextToken 195 [some (.ref v0), none] [.int x9, .ref v0] q4.2))))))))) := by
  rw [← rv_blk_eq [8, 101, 136, 195, 211] 28]
  rfl
set_option maxRecDepth 100000 in
set_option maxHeartbeats 4000000 in
theorem bk_X5_nextToken_195 (v0 : Nat) (s0 : Int32) (s1 : Nat) (w : rv_W) : rv_GO rc_X5_nextToken 195 [some (.ref v0), none] [.int s0, .ref s1] w = ((rv_stF w s1 4 14 (.int s0)).bind fun w1 => ((rv_ldFI w1 v0 4 13).bind fun x2 => ((rv_stF w1 v0 4 13 (.int (x2 + 1))).bind fun w3 => rv_GO rc_X5_nextToken 136 [some (.ref v0), none] [] w3))) := by
  rw [← rv_blk_eq [8, 101, 136, 195, 211] 10]
  rfl
set_option maxRecDepth 100000 in
set_option maxHeartbeats 4000000 in
theorem bk_X5_nextToken_211 (v0 : Nat) (w : rv_W) : rv_GO rc_X5_nextToken 211 [some (.ref v0), none] [] w = ((rv_ldFI w v0 4 13).bind fun x1 => ((rv_ldFI w v0 4 11).bind fun x2 => (bif rv_cnd .le x2 2 then ((rv_stF w v0 4 13 (.int (x1 + 0))).bind fun w3 => some (none, w3)) else ((rv_stF w v0 4 13 (.int (x1 + 1))).bind fun w4 => some (none, w4))))) := by
  rw [← rv_blk_eq [8, 101, 136, 195, 211] 13]
  rfl
set_option maxRecDepth 100000 in
set_option maxHeartbeats 4000000 in
theorem ev_X5_has3 (p : Nat) (n1 : Int32) (n2 : Int32) (n3 : Int32) (n4 : Int32) (w : rv_W) (hp : (rv_obj w p 4).isSome = true) : rv_EV 178 [.ref p, .int n1, .int n2, .int n3, .int n4] w = ((rv_ldFI w p 4 12).bind fun x1 => ((rv_ri (rv_EV 176 [.ref p, .int (x1 + n1)] w)).bind fun q2 => (bif rv_cnd .ne q2.1 n2 then some (some (.int 0), q2.2) else ((rv_ldFI q2.2 p 4 12).bind fun x3 => ((rv_ri (rv_EV 176 [.ref p, .int ((x3 + n1) + 1)] q2.2)).bind fun q4 => (bif rv_cnd .ne q4.1 n3 then some (some (.int 0), q4.2) else ((rv_ldFI q4.2 p 4 12).bind fun x5 => ((rv_ri (rv_EV 176 [.ref p, .int ((x5 + n1) + 2)] q4.2)).bind fun q6 => (bif rv_cnd .ne q6.1 n4 then some (some (.int 0), q6.2) else some (some (.int 1), q6.2)))))))))) := by
  have e : rv_EV 178 [.ref p, .int n1, .int n2, .int n3, .int n4] w = rv_GO rc_X5_has3 0 [some (.ref p), some (.int n1), some (.int n2), some (.int n3), some (.int n4)] [] w := by
    show cond ((rv_obj w p 4).isSome && true) _ _ = _
    rw [hp]
    rfl
  rw [e, ← rv_blk_eq [] 32]
  rfl
set_option maxRecDepth 100000 in
set_option maxHeartbeats 4000000 in
theorem ev_X5_isWord (p : Nat) (n1 : Int32) (w : rv_W) (hp : (rv_obj w p 4).isSome = true) : rv_EV 179 [.ref p, .int n1] w = ((rv_ldFI w p 4 11).bind fun x1 => (bif rv_cnd .ne x1 1 then some (some (.int 0), w) else ((rv_ldFI w p 4 13).bind fun x2 => ((rv_ldFI w p 4 12).bind fun x3 => (bif rv_cnd .ne (x2 - x3) n1 then some (some (.int 0), w) else some (some (.int 1), w)))))) := by
  have e : rv_EV 179 [.ref p, .int n1] w = rv_GO rc_X5_isWord 0 [some (.ref p), some (.int n1)] [] w := by
    show cond ((rv_obj w p 4).isSome && true) _ _ = _
    rw [hp]
    rfl
  rw [e, ← rv_blk_eq [] 15]
  rfl
set_option maxRecDepth 100000 in
set_option maxHeartbeats 4000000 in
theorem ev_X5_fails (p : Nat) (w : rv_W) (hp : (rv_obj w p 4).isSome = true) : rv_EV 180 [.ref p] w = ((rv_ldFI w p 4 12).bind fun x1 => ((rv_stF w p 4 15 (.int x1)).bind fun w2 => some (some (.int 0), w2))) := by
  have e : rv_EV 180 [.ref p] w = rv_GO rc_X5_fails 0 [some (.ref p)] [] w := by
    show cond ((rv_obj w p 4).isSome && true) _ _ = _
    rw [hp]
    rfl
  rw [e, ← rv_blk_eq [] 7]
  rfl
set_option maxRecDepth 100000 in
set_option maxHeartbeats 4000000 in
theorem ev_X5_isFour (p : Nat) (n1 : Int32) (n2 : Int32) (n3 : Int32) (n4 : Int32) (w : rv_W) (hp : (rv_obj w p 4).isSome = true) : rv_EV 181 [.ref p, .int n1, .int n2, .int n3, .int n4] w = ((rv_ri (rv_EV 179 [.ref p, .int 4] w)).bind fun q1 => (bif rv_cnd .eq q1.1 0 then some (some (.int 0), q1.2) else ((rv_ri (rv_EV 178 [.ref p, .int 0, .int n1, .int n2, .int n3] q1.2)).bind fun q2 => (bif rv_cnd .eq q2.1 0 then some (some (.int 0), q2.2) else ((rv_ri (rv_EV 178 [.ref p, .int 1, .int n2, .int n3, .int n4] q2.2)).bind fun q3 => (bif rv_cnd .eq q3.1 0 then some (some (.int 0), q3.2) else some (some (.int 1), q3.2))))))) := by
  have e : rv_EV 181 [.ref p, .int n1, .int n2, .int n3, .int n4] w = rv_GO rc_X5_isFour 0 [some (.ref p), some (.int n1), some (.int n2), some (.int n3), some (.int n4)] [] w := by
    show cond ((rv_obj w p 4).isSome && true) _ _ = _
    rw [hp]
    rfl
  rw [e, ← rv_blk_eq [] 22]
  rfl
set_option maxRecDepth 100000 in
set_option maxHeartbeats 4000000 in
theorem ev_X5_isFive (p : Nat) (n1 : Int32) (n2 : Int32) (n3 : Int32) (n4 : Int32) (n5 : Int32) (w : rv_W) (hp : (rv_obj w p 4).isSome = true) : rv_EV 182 [.ref p, .int n1, .int n2, .int n3, .int n4, .int n5] w = ((rv_ri (rv_EV 179 [.ref p, .int 5] w)).bind fun q1 => (bif rv_cnd .eq q1.1 0 then some (some (.int 0), q1.2) else ((rv_ri (rv_EV 178 [.ref p, .int 0, .int n1, .int n2, .int n3] q1.2)).bind fun q2 => (bif rv_cnd .eq q2.1 0 then some (some (.int 0), q2.2) else ((rv_ri (rv_EV 178 [.ref p, .int 2, .int n3, .int n4, .int n5] q2.2)).bind fun q3 => (bif rv_cnd .eq q3.1 0 then some (some (.int 0), q3.2) else some (some (.int 1), q3.2))))))) := by
  have e : rv_EV 182 [.ref p, .int n1, .int n2, .int n3, .int n4, .int n5] w = rv_GO rc_X5_isFive 0 [some (.ref p), some (.int n1), some (.int n2), some (.int n3), some (.int n4), some (.int n5)] [] w := by
    show cond ((rv_obj w p 4).isSome && true) _ _ = _
    rw [hp]
    rfl
  rw [e, ← rv_blk_eq [] 22]
  rfl
set_option maxRecDepth 100000 in
set_option maxHeartbeats 4000000 in
theorem ev_X5_isSix (p : Nat) (n1 : Int32) (n2 : Int32) (n3 : Int32) (n4 : Int32) (n5 : Int32) (n6 : Int32) (w : rv_W) (hp : (rv_obj w p 4).isSome = true) : rv_EV 183 [.ref p, .int n1, .int n2, .int n3, .int n4, .int n5, .int n6] w = ((rv_ri (rv_EV 179 [.ref p, .int 6] w)).bind fun q1 => (bif rv_cnd .eq q1.1 0 then some (some (.int 0), q1.2) else ((rv_ri (rv_EV 178 [.ref p, .int 0, .int n1, .int n2, .int n3] q1.2)).bind fun q2 => (bif rv_cnd .eq q2.1 0 then some (some (.int 0), q2.2) else ((rv_ri (rv_EV 178 [.ref p, .int 3, .int n4, .int n5, .int n6] q2.2)).bind fun q3 => (bif rv_cnd .eq q3.1 0 then some (some (.int 0), q3.2) else some (some (.int 1), q3.2))))))) := by
  have e : rv_EV 183 [.ref p, .int n1, .int n2, .int n3, .int n4, .int n5, .int n6] w = rv_GO rc_X5_isSix 0 [some (.ref p), some (.int n1), some (.int n2), some (.int n3), some (.int n4), some (.int n5), some (.int n6)] [] w := by
    show cond ((rv_obj w p 4).isSome && true) _ _ = _
    rw [hp]
    rfl
  rw [e, ← rv_blk_eq [] 22]
  rfl
set_option maxRecDepth 100000 in
set_option maxHeartbeats 4000000 in
theorem ev_X5_isNumber (p : Nat) (n1 : Int32) (n2 : Int32) (w : rv_W) (hp : (rv_obj w p 4).isSome = true) : rv_EV 184 [.ref p, .int n1, .int n2] w = ((rv_ldFI w p 4 11).bind fun x1 => (bif rv_cnd .ne x1 2 then rv_GO rc_X5_isNumber 23 [some (.ref p), none, none] [] w else ((rv_ldFI w p 4 14).bind fun x2 => ((rv_ri (rv_EV 107 [.long (Int32.toInt64 x2), .long (Int32.toInt64 n1), .long (Int32.toInt64 n2)] w)).bind fun q3 => (bif rv_cnd .ne q3.1 0 then some (some (.int 1), q3.2) else rv_GO rc_X5_isNumber 23 [some (.ref p), none, none] [] q3.2))))) := by
  have e : rv_EV 184 [.ref p, .int n1, .int n2] w = rv_GO rc_X5_isNumber 0 [some (.ref p), some (.int n1), some (.int n2)] [] w := by
    show cond ((rv_obj w p 4).isSome && true) _ _ = _
    rw [hp]
    rfl
  rw [e, ← rv_blk_eq [23] 17]
  rfl
set_option maxRecDepth 100000 in
set_option maxHeartbeats 4000000 in
theorem bk_X5_isNumber_23 (v0 : Nat) (w : rv_W) : rv_GO rc_X5_isNumber 23 [some (.ref v0), none, none] [] w = ((rv_ri (rv_EV 180 [.ref v0] w)).bind fun q1 => (bif rv_cnd .eq q1.1 0 then some (some (.int 0), q1.2) else some (some (.int 1), q1.2))) := by
  rw [← rv_blk_eq [23] 7]
  rfl
set_option maxRecDepth 100000 in
set_option maxHeartbeats 4000000 in
theorem ev_X5_kindHere (p : Nat) (w : rv_W) (hp : (rv_obj w p 4).isSome = true) : rv_EV 185 [.ref p] w = ((rv_ri (rv_EV 183 [.ref p, .int 98, .int 97, .int 116, .int 104, .int 101, .int 114] w)).bind fun q1 => (bif rv_cnd .eq q1.1 0 then ((rv_ri (rv_EV 179 [.ref p, .int 7] q1.2)).bind fun q2 => (bif rv_cnd .eq q2.1 0 then rv_GO rc_X5_kindHere 74 [some (.ref p)] [] q2.2 else ((rv_ri (rv_EV 178 [.ref p, .int 0, .int 100, .int 117, .int 99] q2.2)).bind fun q3 => (bif rv_cnd .eq q3.1 0 then rv_GO rc_X5_kindHere 74 [some (.ref p)] [] q3.2 else ((rv_ri (rv_EV 178 [.ref p, .int 3, .int 104, .int 101, .int 115] q3.2)).bind fun q4 => (bif rv_cnd .eq q4.1 0 then rv_GO rc_X5_kindHere 74 [some (.ref p)] [] q4.2 else ((rv_ri (rv_EV 178 [.ref p, .int 4, .int 101, .int 115, .int 115] q4.2)).bind fun q5 => (bif rv_cnd .eq q5.1 0 then rv_GO rc_X5_kindHere 74 [some (.ref p)] [] q5.2 else some (some (.int 1), q5.2))))))))) else some (some (.int 0), q1.2))) := by
  have e : rv_EV 185 [.ref p] w = rv_GO rc_X5_kindHere 0 [some (.ref p)] [] w := by
    show cond ((rv_obj w p 4).isSome && true) _ _ = _
    rw [hp]
    rfl
  rw [e, ← rv_blk_eq [74, 117, 186, 210] 37]
  rfl
set_option maxRecDepth 100000 in
set_option maxHeartbeats 4000000 in
theorem bk_X5_kindHere_74 (v0 : Nat) (w : rv_W) : rv_GO rc_X5_kindHere 74 [some (.ref v0)] [] w = ((rv_ri (rv_EV 182 [.ref v0, .int 99, .int 108, .int 101, .int 114, .int 107] w)).bind fun q1 => (bif rv_cnd .eq q1.1 0 then ((rv_ri (rv_EV 179 [.ref v0, .int 3] q1.2)).bind fun q2 => (bif rv_cnd .eq q2.1 0 then rv_GO rc_X5_kindHere 117 [some (.ref v0)] [] q2.2 else ((rv_ri (rv_EV 178 [.ref v0, .int 0, .int 115, .int 112, .int 121] q2.2)).bind fun q3 => (bif rv_cnd .eq q3.1 0 then rv_GO rc_X5_kindHere 117 [some (.ref v0)] [] q3.2 else some (some (.int 3), q3.2))))) else some (some (.int 2), q1.2))) := by
  rw [← rv_blk_eq [74, 117, 186, 210] 22]
  rfl
set_option maxRecDepth 100000 in
set_option maxHeartbeats 4000000 in
theorem bk_X5_kindHere_117 (v0 : Nat) (w : rv_W) : rv_GO rc_X5_kindHere 117 [some (.ref v0)] [] w = ((rv_ri (rv_EV 179 [.ref v0, .int 11] w)).bind fun q1 => (bif rv_cnd .eq q1.1 0 then rv_GO rc_X5_kindHere 186 [some (.ref v0)] [] q1.2 else ((rv_ri (rv_EV 178 [.ref v0, .int 0, .int 108, .int 97, .int 109] q1.2)).bind fun q2 => (bif rv_cnd .eq q2.1 0 then rv_GO rc_X5_kindHere 186 [some (.ref v0)] [] q2.2 else ((rv_ri (rv_EV 178 [.ref v0, .int 3, .int 112, .int 108, .int 105] q2.2)).bind fun q3 => (bif rv_cnd .eq q3.1 0 then rv_GO rc_X5_kindHere 186 [some (.ref v0)] [] q3.2 else ((rv_ri (rv_EV 178 [.ref v0, .int 6, .int 103, .int 104, .int 116] q3.2)).bind fun q4 => (bif rv_cnd .eq q4.1 0 then rv_GO rc_X5_kindHere 186 [some (.ref v0)] [] q4.2 else ((rv_ri (rv_EV 178 [.ref v0, .int 8, .int 116, .int 101, .int 114] q4.2)).bind fun q5 => (bif rv_cnd .eq q5.1 0 then rv_GO rc_X5_kindHere 186 [some (.ref v0)] [] q5.2 else some (some (.int 4), q5.2))))))))))) := by
  rw [← rv_blk_eq [74, 117, 186, 210] 35]
  rfl
set_option maxRecDepth 100000 in
set_option maxHeartbeats 4000000 in
theorem bk_X5_kindHere_186 (v0 : Nat) (w : rv_W) : rv_GO rc_X5_kindHere 186 [some (.ref v0)] [] w = ((rv_ri (rv_EV 179 [.ref v0, .int 3] w)).bind fun q1 => (bif rv_cnd .eq q1.1 0 then rv_GO rc_X5_kindHere 210 [some (.ref v0)] [] q1.2 else ((rv_ri (rv_EV 178 [.ref v0, .int 0, .int 115, .int 97, .int 100] q1.2)).bind fun q2 => (bif rv_cnd .eq q2.1 0 then rv_GO rc_X5_kindHere 210 [some (.ref v0)] [] q2.2 else some (some (.int 5), q2.2))))) := by
  rw [← rv_blk_eq [74, 117, 186, 210] 14]
  rfl
set_option maxRecDepth 100000 in
set_option maxHeartbeats 4000000 in
theorem bk_X5_kindHere_210 (v0 : Nat) (w : rv_W) : rv_GO rc_X5_kindHere 210 [some (.ref v0)] [] w = ((rv_ri (rv_EV 183 [.ref v0, .int 99, .int 111, .int 110, .int 115, .int 117, .int 108] w)).bind fun q1 => (bif rv_cnd .eq q1.1 0 then some (some (.int (-1)), q1.2) else some (some (.int 6), q1.2))) := by
  rw [← rv_blk_eq [74, 117, 186, 210] 13]
  rfl
set_option maxRecDepth 100000 in
set_option maxHeartbeats 4000000 in
theorem ev_X5_isTwo (p : Nat) (n1 : Int32) (n2 : Int32) (w : rv_W) (hp : (rv_obj w p 4).isSome = true) : rv_EV 186 [.ref p, .int n1, .int n2] w = ((rv_ri (rv_EV 179 [.ref p, .int 2] w)).bind fun q1 => (bif rv_cnd .eq q1.1 0 then some (some (.int 0), q1.2) else ((rv_ldFI q1.2 p 4 12).bind fun x2 => ((rv_ri (rv_EV 176 [.ref p, .int x2] q1.2)).bind fun q3 => (bif rv_cnd .ne q3.1 n1 then some (some (.int 0), q3.2) else ((rv_ldFI q3.2 p 4 12).bind fun x4 => ((rv_ri (rv_EV 176 [.ref p, .int (x4 + 1)] q3.2)).bind fun q5 => (bif rv_cnd .ne q5.1 n2 then some (some (.int 0), q5.2) else some (some (.int 1), q5.2))))))))) := by
  have e : rv_EV 186 [.ref p, .int n1, .int n2] w = rv_GO rc_X5_isTwo 0 [some (.ref p), some (.int n1), some (.int n2)] [] w := by
    show cond ((rv_obj w p 4).isSome && true) _ _ = _
    rw [hp]
    rfl
  rw [e, ← rv_blk_eq [] 22]
  rfl
set_option maxRecDepth 100000 in
set_option maxHeartbeats 4000000 in
theorem ev_X5_perhaps (p : Nat) (n1 : Int32) (n2 : Int32) (w : rv_W) (hp : (rv_obj w p 4).isSome = true) : rv_EV 187 [.ref p, .int n1, .int n2] w = (bif rv_cnd .ne n1 0 then ((rv_rv (rv_EV 177 [.ref p] w)).bind fun q1 => ((rv_ri (rv_EV 133 [.int n2] q1)).bind fun q2 => ((rv_ri (rv_EV 184 [.ref p, .int 0, .int q2.1] q2.2)).bind fun q3 => (bif rv_cnd .ne q3.1 0 then ((rv_ldFR q3.2 p 4 0).bind fun a4 => ((rv_ldFR q3.2 p 4 0).bind fun a5 => ((rv_ldI q3.2 a5 0).bind fun x6 => ((rv_ldFI q3.2 p 4 14).bind fun x7 => ((rv_stI q3.2 a4 ((54 + (4 * (x6 - 1))) + n2) x7).bind fun w8 => ((rv_rv (rv_EV 177 [.ref p] w8)).bind fun q9 => some (some (.int 1), q9))))))) else some (some (.int 0), q3.2))))) else some (some (.int 1), w)) := by
  have e : rv_EV 187 [.ref p, .int n1, .int n2] w = rv_GO rc_X5_perhaps 0 [some (.ref p), some (.int n1), some (.int n2)] [] w := by
    show cond ((rv_obj w p 4).isSome && true) _ _ = _
    rw [hp]
    rfl
  rw [e, ← rv_blk_eq [] 32]
  rfl
set_option maxRecDepth 100000 in
set_option maxHeartbeats 4000000 in
theorem ev_X5_batherHere (p : Nat) (n1 : Int32) (w : rv_W) (hp : (rv_obj w p 4).isSome = true) : rv_EV 188 [.ref p, .int n1] w = ((rv_ldFR w p 4 0).bind fun a1 => ((rv_ldI w a1 0).bind fun x2 => (bif rv_cnd .ne x2 8 then ((rv_rv (rv_EV 126 [.ref p, .int n1, .int 0, .int 0, .int 0] w)).bind fun q3 => ((rv_rv (rv_EV 177 [.ref p] q3)).bind fun q4 => ((rv_ri (rv_EV 186 [.ref p, .int 105, .int 110] q4)).bind fun q5 => ((rv_ri (rv_EV 187 [.ref p, .int q5.1, .int 1] q5.2)).bind fun q6 => (bif rv_cnd .eq q6.1 0 then some (some (.int 0), q6.2) else ((rv_ri (rv_EV 181 [.ref p, .int 119, .int 105, .int 116, .int 104] q6.2)).bind fun q7 => ((rv_ri (rv_EV 187 [.ref p, .int q7.1, .int 2] q7.2)).bind fun q8 => (bif rv_cnd .eq q8.1 0 then some (some (.int 0), q8.2) else ((rv_ri (rv_EV 182 [.ref p, .int 107, .int 110, .int 111, .int 119, .int 115] q8.2)).bind fun q9 => ((rv_ri (rv_EV 187 [.ref p, .int q9.1, .int 3] q9.2)).bind fun q10 => (bif rv_cnd .eq q10.1 0 then some (some (.int 0), q10.2) else some (some (.int 1), q10.2)))))))))))) else ((rv_ri (rv_EV 180 [.ref p] w)).bind fun q11 => (bif rv_bz q11.1 then some (some (.int q11.1), q11.2) else none))))) := by
  have e : rv_EV 188 [.ref p, .int n1] w = rv_GO rc_X5_batherHere 0 [some (.ref p), some (.int n1)] [] w := by
    show cond ((rv_obj w p 4).isSome && true) _ _ = _
    rw [hp]
    rfl
  rw [e, ← rv_blk_eq [] 47]
  rfl
set_option maxRecDepth 100000 in
set_option maxHeartbeats 4000000 in
theorem ev_X5_tubHere (p : Nat) (w : rv_W) (hp : (rv_obj w p 4).isSome = true) : rv_EV 189 [.ref p] w = ((rv_rv (rv_EV 177 [.ref p] w)).bind fun q1 => ((rv_ri (rv_EV 184 [.ref p, .int 0, .int 9] q1)).bind fun q2 => (bif rv_cnd .ne q2.1 0 then ((rv_ldFI q2.2 p 4 14).bind fun x3 => ((rv_rv (rv_EV 177 [.ref p] q2.2)).bind fun q4 => ((rv_ri (rv_EV 184 [.ref p, .int 0, .int 99] q4)).bind fun q5 => (bif rv_cnd .ne q5.1 0 then ((rv_ldFR q5.2 p 4 0).bind fun a6 => ((rv_ldFI q5.2 p 4 14).bind fun x7 => ((rv_stI q5.2 a6 (4 + x3) x7).bind fun w8 => ((rv_rv (rv_EV 177 [.ref p] w8)).bind fun q9 => ((rv_ri (rv_EV 186 [.ref p, .int 111, .int 102] q9)).bind fun q10 => (bif rv_cnd .ne q10.1 0 then ((rv_rv (rv_EV 177 [.ref p] q10.2)).bind fun q11 => ((rv_ri (rv_EV 184 [.ref p, .int 0, .int 3] q11)).bind fun q12 => (bif rv_cnd .ne q12.1 0 then ((rv_ldFI q12.2 p 4 14).bind fun x13 => ((rv_rv (rv_EV 177 [.ref p] q12.2)).bind fun q14 => ((rv_ri (rv_EV 184 [.ref p, .int 0, .int 9999] q14)).bind fun q15 => (bif rv_cnd .ne q15.1 0 then ((rv_ldFR q15.2 p 4 0).bind fun a16 => ((rv_ri (rv_EV 118 [.int x3, .int x13] q15.2)).bind fun q17 => ((rv_ldFI q17.2 p 4 14).bind fun x18 => ((rv_stI q17.2 a16 q17.1 x18).bind fun w19 => ((rv_rv (rv_EV 177 [.ref p] w19)).bind fun q20 => some (some (.int 1), q20)))))) else some (some (.int 0), q15.2))))) else some (some (.int 0), q12.2)))) else some (some (.int 1), q10.2))))))) else some (some (.int 0), q5.2))))) else some (some (.int 0), q2.2)))) := by
  have e : rv_EV 189 [.ref p] w = rv_GO rc_X5_tubHere 0 [some (.ref p), none, none] [] w := by
    show cond ((rv_obj w p 4).isSome && true) _ _ = _
    rw [hp]
    rfl
  rw [e, ← rv_blk_eq [] 62]
  rfl
set_option maxRecDepth 100000 in
set_option maxHeartbeats 4000000 in
theorem ev_X5_freshHere (p : Nat) (w : rv_W) (hp : (rv_obj w p 4).isSome = true) : rv_EV 190 [.ref p] w = ((rv_rv (rv_EV 177 [.ref p] w)).bind fun q1 => ((rv_ri (rv_EV 184 [.ref p, .int 0, .int 99] q1)).bind fun q2 => (bif rv_cnd .ne q2.1 0 then ((rv_ldFR q2.2 p 4 0).bind fun a3 => ((rv_ldFI q2.2 p 4 14).bind fun x4 => ((rv_stI q2.2 a3 2 x4).bind fun w5 => ((rv_rv (rv_EV 177 [.ref p] w5)).bind fun q6 => some (some (.int 1), q6))))) else some (some (.int 0), q2.2)))) := by
  have e : rv_EV 190 [.ref p] w = rv_GO rc_X5_freshHere 0 [some (.ref p)] [] w := by
    show cond ((rv_obj w p 4).isSome && true) _ _ = _
    rw [hp]
    rfl
  rw [e, ← rv_blk_eq [] 18]
  rfl
set_option maxRecDepth 100000 in
set_option maxHeartbeats 4000000 in
theorem ev_X5_plugHere (p : Nat) (w : rv_W) (hp : (rv_obj w p 4).isSome = true) : rv_EV 191 [.ref p] w = ((rv_rv (rv_EV 177 [.ref p] w)).bind fun q1 => ((rv_ri (rv_EV 184 [.ref p, .int 0, .int 9] q1)).bind fun q2 => (bif rv_cnd .ne q2.1 0 then ((rv_ldFI q2.2 p 4 14).bind fun x3 => ((rv_ri (rv_EV 124 [.ref p, .int x3] q2.2)).bind fun q4 => ((rv_rv (rv_EV 177 [.ref p] q4.2)).bind fun q5 => some (some (.int 1), q5)))) else some (some (.int 0), q2.2)))) := by
  have e : rv_EV 191 [.ref p] w = rv_GO rc_X5_plugHere 0 [some (.ref p), none] [] w := by
    show cond ((rv_obj w p 4).isSome && true) _ _ = _
    rw [hp]
    rfl
  rw [e, ← rv_blk_eq [] 17]
  rfl
set_option maxRecDepth 100000 in
set_option maxHeartbeats 4000000 in
theorem ev_X5_itemHere (p : Nat) (w : rv_W) (hp : (rv_obj w p 4).isSome = true) : rv_EV 192 [.ref p] w = ((rv_ri (rv_EV 185 [.ref p] w)).bind fun q1 => (bif rv_cnd .lt q1.1 0 then ((rv_ri (rv_EV 179 [.ref p, .int 3] q1.2)).bind fun q2 => (bif rv_cnd .eq q2.1 0 then rv_GO rc_X5_itemHere 42 [some (.ref p), none] [] q2.2 else ((rv_ri (rv_EV 178 [.ref p, .int 0, .int 116, .int 117, .int 98] q2.2)).bind fun q3 => (bif rv_cnd .eq q3.1 0 then rv_GO rc_X5_itemHere 42 [some (.ref p), none] [] q3.2 else ((rv_ri (rv_EV 189 [.ref p] q3.2)).bind fun q4 => (bif rv_bz q4.1 then some (some (.int q4.1), q4.2) else none)))))) else ((rv_ri (rv_EV 188 [.ref p, .int q1.1] q1.2)).bind fun q5 => (bif rv_bz q5.1 then some (some (.int q5.1), q5.2) else none)))) := by
  have e : rv_EV 192 [.ref p] w = rv_GO rc_X5_itemHere 0 [some (.ref p), none] [] w := by
    show cond ((rv_obj w p 4).isSome && true) _ _ = _
    rw [hp]
    rfl
  rw [e, ← rv_blk_eq [42] 20]
  rfl
set_option maxRecDepth 100000 in
set_option maxHeartbeats 4000000 in
theorem bk_X5_itemHere_42 (v0 : Nat) (w : rv_W) : rv_GO rc_X5_itemHere 42 [some (.ref v0), none] [] w = ((rv_ri (rv_EV 182 [.ref v0, .int 102, .int 114, .int 101, .int 115, .int 104] w)).bind fun q1 => (bif rv_cnd .eq q1.1 0 then ((rv_ri (rv_EV 181 [.ref v0, .int 112, .int 108, .int 117, .int 103] q1.2)).bind fun q2 => (bif rv_cnd .eq q2.1 0 then ((rv_ri (rv_EV 180 [.ref v0] q2.2)).bind fun q3 => (bif rv_bz q3.1 then some (some (.int q3.1), q3.2) else none)) else ((rv_ri (rv_EV 191 [.ref v0] q2.2)).bind fun q4 => (bif rv_bz q4.1 then some (some (.int q4.1), q4.2) else none)))) else ((rv_ri (rv_EV 190 [.ref v0] q1.2)).bind fun q5 => (bif rv_bz q5.1 then some (some (.int q5.1), q5.2) else none)))) := by
  rw [← rv_blk_eq [42] 20]
  rfl
set_option maxRecDepth 100000 in
set_option maxHeartbeats 4000000 in
theorem ev_X5_text (p : Nat) (w : rv_W) (hp : (rv_obj w p 4).isSome = true) : rv_EV 193 [.ref p] w = ((rv_ldFR w p 4 0).bind fun a1 => ((rv_ldFR w p 4 2).bind fun a2 => ((rv_rv (rv_EV 110 [.ref a1, .ref a2] w)).bind fun q3 => ((rv_stF q3 p 4 13 (.int 0)).bind fun w4 => ((rv_rv (rv_EV 177 [.ref p] w4)).bind fun q5 => ((rv_ri (rv_EV 192 [.ref p] q5)).bind fun q6 => rv_GO rc_X5_text 27 [some (.ref p), some (.int 1), some (.int q6.1)] [] q6.2)))))) := by
  have e : rv_EV 193 [.ref p] w = rv_GO rc_X5_text 0 [some (.ref p), none, none] [] w := by
    show cond ((rv_obj w p 4).isSome && true) _ _ = _
    rw [hp]
    rfl
  rw [e, ← rv_blk_eq [27, 54, 77, 98] 17]
  rfl
set_option maxRecDepth 100000 in
set_option maxHeartbeats 4000000 in
theorem bk_X5_text_27 (v0 : Nat) (v1 : Int32) (v2 : Int32) (w : rv_W) : rv_GO rc_X5_text 27 [some (.ref v0), some (.int v1), some (.int v2)] [] w = (bif rv_cnd .eq v2 0 then rv_GO rc_X5_text 54 [some (.ref v0), some (.int v1), some (.int v2)] [] w else ((rv_ldFI w v0 4 11).bind fun x1 => (bif rv_cnd .ne x1 3 then rv_GO rc_X5_text 54 [some (.ref v0), some (.int v1), some (.int v2)] [] w else ((rv_rv (rv_EV 177 [.ref v0] w)).bind fun q2 => ((rv_ri (rv_EV 192 [.ref v0] q2)).bind fun q3 => rv_GO rc_X5_text 27 [some (.ref v0), some (.int (v1 + 1)), some (.int q3.1)] [] q3.2))))) := by
  rw [← rv_blk_eq [27, 54, 77, 98] 15]
  rfl
set_option maxRecDepth 100000 in
set_option maxHeartbeats 4000000 in
theorem bk_X5_text_54 (v0 : Nat) (v1 : Int32) (v2 : Int32) (w : rv_W) : rv_GO rc_X5_text 54 [some (.ref v0), some (.int v1), some (.int v2)] [] w = (bif rv_cnd .eq v2 0 then rv_GO rc_X5_text 77 [some (.ref v0), some (.int v1), none] [.int 0] w else ((rv_ldFI w v0 4 11).bind fun x1 => (bif rv_cnd .eq x1 0 then rv_GO rc_X5_text 77 [some (.ref v0), some (.int v1), none] [.int 1] w else ((rv_ri (rv_EV 180 [.ref v0] w)).bind fun q2 => (bif rv_cnd .eq q2.1 0 then rv_GO rc_X5_text 77 [some (.ref v0), some (.int v1), none] [.int 0] q2.2 else rv_GO rc_X5_text 77 [some (.ref v0), some (.int v1), none] [.int 1] q2.2))))) := by
  rw [← rv_blk_eq [27, 54, 77, 98] 12]
  rfl
set_option maxRecDepth 100000 in
set_option maxHeartbeats 4000000 in
theorem bk_X5_text_77 (v0 : Nat) (v1 : Int32) (s0 : Int32) (w : rv_W) : rv_GO rc_X5_text 77 [some (.ref v0), some (.int v1), none] [.int s0] w = ((rv_stF w v0 4 7 (.int 0)).bind fun w1 => (bif rv_cnd .ne s0 0 then rv_GO rc_X5_text 98 [some (.ref v0), some (.int v1), some (.int s0)] [] w1 else ((rv_ldFR w1 v0 4 2).bind fun a2 => ((rv_ldFR w1 v0 4 0).bind fun a3 => ((rv_rv (rv_EV 110 [.ref a2, .ref a3] w1)).bind fun q4 => rv_GO rc_X5_text 98 [some (.ref v0), some (.int v1), some (.int s0)] [] q4))))) := by
  rw [← rv_blk_eq [27, 54, 77, 98] 13]
  rfl
set_option maxRecDepth 100000 in
set_option maxHeartbeats 4000000 in
theorem bk_X5_text_98 (v0 : Nat) (v1 : Int32) (v2 : Int32) (w : rv_W) : rv_GO rc_X5_text 98 [some (.ref v0), some (.int v1), some (.int v2)] [] w = (bif rv_cnd .eq v2 0 then ((rv_ldFI w v0 4 15).bind fun x1 => some (some (.int ((-1) - x1)), w)) else some (some (.int v1), w)) := by
  rw [← rv_blk_eq [27, 54, 77, 98] 8]
  rfl
set_option maxRecDepth 100000 in
set_option maxHeartbeats 4000000 in
theorem ev_X5_hold (p : Nat) (n1 : Int32) (n2 : Int32) (w : rv_W) (hp : (rv_obj w p 4).isSome = true) : rv_EV 194 [.ref p, .int n1, .int n2] w = ((rv_ri (rv_EV 107 [.long (Int32.toInt64 n1), .long (Int32.toInt64 0), .long (Int32.toInt64 9)] w)).bind fun q1 => (bif rv_cnd .eq q1.1 0 then ((rv_ri (rv_EV 108 [.ref p, .int (-1000001)] q1.2)).bind fun q2 => some (some (.int q2.1), q2.2)) else (bif rv_cnd .eq n2 (-1) then rv_GO rc_X5_hold 32 [some (.ref p), some (.int n1), some (.int n2)] [] q1.2 else ((rv_ri (rv_EV 113 [.ref p, .int n2] q1.2)).bind fun q3 => (bif rv_cnd .ne q3.1 0 then rv_GO rc_X5_hold 32 [some (.ref p), some (.int n1), some (.int n2)] [] q3.2 else ((rv_ri (rv_EV 108 [.ref p, .int (-1000001)] q3.2)).bind fun q4 => some (some (.int q4.1), q4.2))))))) := by
  have e : rv_EV 194 [.ref p, .int n1, .int n2] w = rv_GO rc_X5_hold 0 [some (.ref p), some (.int n1), some (.int n2)] [] w := by
    show cond ((rv_obj w p 4).isSome && true) _ _ = _
    rw [hp]
    rfl
  rw [e, ← rv_blk_eq [32] 18]
  rfl
set_option maxRecDepth 100000 in
set_option maxHeartbeats 4000000 in
theorem bk_X5_hold_32 (v0 : Nat) (v1 : Int32) (v2 : Int32) (w : rv_W) : rv_GO rc_X5_hold 32 [some (.ref v0), some (.int v1), some (.int v2)] [] w = ((rv_ldFR w v0 4 0).bind fun a1 => ((rv_stI w a1 (86 + v1) v2).bind fun w2 => some (some (.int 1), w2))) := by
  rw [← rv_blk_eq [32] 10]
  rfl
set_option maxRecDepth 100000 in
set_option maxHeartbeats 4000000 in
theorem ev_X5_isUnder (n1 : Int32) (n2 : Int32) (w : rv_W) : rv_EV 195 [.int n1, .int n2] w = (bif rv_cnd .eq n2 0 then some (some (.int 1), w) else (bif rv_cnd .eq n1 n2 then some (some (.int 1), w) else (bif rv_cnd .ne n2 2 then rv_GO rc_X5_isUnder 24 [some (.int n1), some (.int n2)] [] w else (bif rv_cnd .eq n1 3 then some (some (.int 1), w) else (bif rv_cnd .eq n1 4 then some (some (.int 1), w) else rv_GO rc_X5_isUnder 24 [some (.int n1), some (.int n2)] [] w))))) := by
  have e : rv_EV 195 [.int n1, .int n2] w = rv_GO rc_X5_isUnder 0 [some (.int n1), some (.int n2)] [] w := by
    rfl
  rw [e, ← rv_blk_eq [24, 34] 18]
  rfl
set_option maxRecDepth 100000 in
set_option maxHeartbeats 4000000 in
theorem bk_X5_isUnder_24 (v0 : Int32) (v1 : Int32) (w : rv_W) : rv_GO rc_X5_isUnder 24 [some (.int v0), some (.int v1)] [] w = (bif rv_cnd .ne v1 3 then rv_GO rc_X5_isUnder 34 [some (.int v0), some (.int v1)] [] w else (bif rv_cnd .eq v0 4 then some (some (.int 1), w) else rv_GO rc_X5_isUnder 34 [some (.int v0), some (.int v1)] [] w)) := by
  rw [← rv_blk_eq [24, 34] 10]
  rfl
set_option maxRecDepth 100000 in
set_option maxHeartbeats 4000000 in
theorem bk_X5_isUnder_34 (v0 : Int32) (v1 : Int32) (w : rv_W) : rv_GO rc_X5_isUnder 34 [some (.int v0), some (.int v1)] [] w = (bif rv_cnd .ne v1 1 then some (some (.int 0), w) else (bif rv_cnd .ne v0 6 then some (some (.int 0), w) else some (some (.int 1), w))) := by
  rw [← rv_blk_eq [24, 34] 10]
  rfl
set_option maxRecDepth 100000 in
set_option maxHeartbeats 4000000 in
theorem ev_X5_as (p : Nat) (n1 : Int32) (n2 : Int32) (w : rv_W) (hp : (rv_obj w p 4).isSome = true) : rv_EV 196 [.ref p, .int n1, .int n2] w = ((rv_ri (rv_EV 107 [.long (Int32.toInt64 n1), .long (Int32.toInt64 0), .long (Int32.toInt64 9)] w)).bind fun q1 => (bif rv_cnd .eq q1.1 0 then ((rv_ri (rv_EV 108 [.ref p, .int (-1000001)] q1.2)).bind fun q2 => some (some (.int q2.1), q2.2)) else ((rv_ri (rv_EV 107 [.long (Int32.toInt64 n2), .long (Int32.toInt64 0), .long (Int32.toInt64 6)] q1.2)).bind fun q3 => (bif rv_cnd .ne q3.1 0 then ((rv_ldFR q3.2 p 4 0).bind fun a4 => ((rv_ldI q3.2 a4 (86 + n1)).bind fun x5 => (bif rv_cnd .ge x5 0 then ((rv_ri (rv_EV 114 [.ref p, .int x5, .int 0] q3.2)).bind fun q6 => ((rv_ri (rv_EV 195 [.int q6.1, .int n2] q6.2)).bind fun q7 => (bif rv_cnd .eq q7.1 0 then ((rv_ri (rv_EV 108 [.ref p, .int (-1000003)] q7.2)).bind fun q8 => some (some (.int q8.1), q8.2)) else some (some (.int x5), q7.2)))) else ((rv_ri (rv_EV 108 [.ref p, .int (-1000006)] q3.2)).bind fun q9 => some (some (.int q9.1), q9.2))))) else ((rv_ri (rv_EV 108 [.ref p, .int (-1000001)] q3.2)).bind fun q10 => some (some (.int q10.1), q10.2)))))) := by
  have e : rv_EV 196 [.ref p, .int n1, .int n2] w = rv_GO rc_X5_as 0 [some (.ref p), some (.int n1), some (.int n2), none] [] w := by
    show cond ((rv_obj w p 4).isSome && true) _ _ = _
    rw [hp]
    rfl
  rw [e, ← rv_blk_eq [] 33]
  rfl
set_option maxRecDepth 100000 in
set_option maxHeartbeats 4000000 in
theorem ev_X5_isSheet (n1 : Int32) (w : rv_W) : rv_EV 197 [.int n1] w = (bif rv_cnd .lt n1 0 then some (some (.int 0), w) else (bif rv_cnd .ge n1 4 then some (some (.int 0), w) else some (some (.int 1), w))) := by
  have e : rv_EV 197 [.int n1] w = rv_GO rc_X5_isSheet 0 [some (.int n1)] [] w := by
    rfl
  rw [e, ← rv_blk_eq [] 9]
  rfl
set_option maxRecDepth 100000 in
set_option maxHeartbeats 4000000 in
theorem ev_X5_sheet (p : Nat) (n1 : Int32) (n2 : Int32) (n3 : Int32) (w : rv_W) (hp : (rv_obj w p 4).isSome = true) : rv_EV 198 [.ref p, .int n1, .int n2, .int n3] w = ((rv_ri (rv_EV 197 [.int n1] w)).bind fun q1 => (bif rv_cnd .eq q1.1 0 then ((rv_ri (rv_EV 108 [.ref p, .int (-1000001)] q1.2)).bind fun q2 => some (some (.int q2.1), q2.2)) else (bif rv_cnd .eq n2 0 then rv_GO rc_X5_sheet 36 [some (.ref p), some (.int n1), some (.int n2), some (.int n3), none] [] q1.2 else (bif rv_cnd .eq n2 8 then rv_GO rc_X5_sheet 36 [some (.ref p), some (.int n1), some (.int n2), some (.int n3), none] [] q1.2 else (bif rv_cnd .eq n2 16 then rv_GO rc_X5_sheet 36 [some (.ref p), some (.int n1), some (.int n2), some (.int n3), none] [] q1.2 else (bif rv_cnd .eq n2 32 then rv_GO rc_X5_sheet 36 [some (.ref p), some (.int n1), some (.int n2), some (.int n3), none] [] q1.2 else ((rv_ri (rv_EV 108 [.ref p, .int (-1000001)] q1.2)).bind fun q3 => some (some (.int q3.1), q3.2)))))))) := by
  have e : rv_EV 198 [.ref p, .int n1, .int n2, .int n3] w = rv_GO rc_X5_sheet 0 [some (.ref p), some (.int n1), some (.int n2), some (.int n3), none] [] w := by
    show cond ((rv_obj w p 4).isSome && true) _ _ = _
    rw [hp]
    rfl
  rw [e, ← rv_blk_eq [36, 75, 94] 19]
  rfl
set_option maxRecDepth 100000 in
set_option maxHeartbeats 4000000 in
theorem bk_X5_sheet_36 (v0 : Nat) (v1 : Int32) (v2 : Int32) (v3 : Int32) (w : rv_W) : rv_GO rc_X5_sheet 36 [some (.ref v0), some (.int v1), some (.int v2), some (.int v3), none] [] w = (bif rv_cnd .ge v3 0 then (bif rv_cnd .le v3 40 then ((rv_ldFR w v0 4 8).bind fun a1 => (bif rv_cnd .ne v2 0 then rv_GO rc_X5_sheet 75 [some (.ref v0), some (.int v1), some (.int v2), some (.int v3), none] [.int v2, .int v1, .ref a1] w else rv_GO rc_X5_sheet 75 [some (.ref v0), some (.int v1), some (.int v2), some (.int v3), none] [.int (-1), .int v1, .ref a1] w)) else ((rv_ri (rv_EV 108 [.ref v0, .int (-1000001)] w)).bind fun q2 => some (some (.int q2.1), q2.2))) else ((rv_ri (rv_EV 108 [.ref v0, .int (-1000007)] w)).bind fun q3 => some (some (.int q3.1), q3.2))) := by
  rw [← rv_blk_eq [36, 75, 94] 14]
  rfl
set_option maxRecDepth 100000 in
set_option maxHeartbeats 4000000 in
theorem bk_X5_sheet_75 (v0 : Nat) (v1 : Int32) (v2 : Int32) (v3 : Int32) (s0 : Int32) (s1 : Int32) (s2 : Nat) (w : rv_W) : rv_GO rc_X5_sheet 75 [some (.ref v0), some (.int v1), some (.int v2), some (.int v3), none] [.int s0, .int s1, .ref s2] w = ((rv_stI w s2 s1 s0).bind fun w1 => ((rv_ldFR w1 v0 4 9).bind fun a2 => (bif rv_cnd .ne v2 0 then ((rv_stI w1 a2 v1 v3).bind fun w3 => rv_GO rc_X5_sheet 94 [some (.ref v0), some (.int v1), none, none, some (.int 0)] [] w3) else ((rv_stI w1 a2 v1 0).bind fun w4 => rv_GO rc_X5_sheet 94 [some (.ref v0), some (.int v1), none, none, some (.int 0)] [] w4)))) := by
  rw [← rv_blk_eq [36, 75, 94] 13]
  rfl
set_option maxRecDepth 100000 in
set_option maxHeartbeats 4000000 in
theorem bk_X5_sheet_94 (v0 : Nat) (v1 : Int32) (v4 : Int32) (w : rv_W) : rv_GO rc_X5_sheet 94 [some (.ref v0), some (.int v1), none, none, some (.int v4)] [] w = (bif rv_cnd .ge v4 40 then ((rv_ldFR w v0 4 9).bind fun a1 => ((rv_ldI w a1 v1).bind fun x2 => some (some (.int x2), w))) else ((rv_ldFR w v0 4 10).bind fun a3 => ((rv_stI w a3 ((40 * v1) + v4) 0).bind fun w4 => rv_GO rc_X5_sheet 94 [some (.ref v0), some (.int v1), none, none, some (.int (v4 + 1))] [] w4))) := by
  rw [← rv_blk_eq [36, 75, 94] 16]
  rfl
set_option maxRecDepth 100000 in
set_option maxHeartbeats 4000000 in
theorem ev_X5_write (p : Nat) (n1 : Int32) (n2 : Int32) (n3 : Int32) (w : rv_W) (hp : (rv_obj w p 4).isSome = true) : rv_EV 199 [.ref p, .int n1, .int n2, .int n3] w = ((rv_ri (rv_EV 197 [.int n1] w)).bind fun q1 => (bif rv_cnd .ne q1.1 0 then ((rv_ldFR q1.2 p 4 8).bind fun a2 => ((rv_ldI q1.2 a2 n1).bind fun x3 => (bif rv_cnd .ge x3 0 then ((rv_ldFR q1.2 p 4 9).bind fun a4 => ((rv_ldI q1.2 a4 n1).bind fun x5 => ((rv_ri (rv_EV 107 [.long (Int32.toInt64 n2), .long (Int32.toInt64 0), .long (Int32.toInt64 (x5 - 1))] q1.2)).bind fun q6 => (bif rv_cnd .ne q6.1 0 then ((rv_ldFR q6.2 p 4 10).bind fun a7 => ((rv_ldFR q6.2 p 4 8).bind fun a8 => ((rv_ldI q6.2 a8 n1).bind fun x9 => (bif rv_cnd .ne x9 8 then ((rv_ldFR q6.2 p 4 8).bind fun a10 => ((rv_ldI q6.2 a10 n1).bind fun x11 => (bif rv_cnd .ne x11 16 then ((rv_stI q6.2 a7 ((40 * n1) + n2) n3).bind fun w12 => some (some (.int 1), w12)) else ((rv_stI q6.2 a7 ((40 * n1) + n2) n3.toInt16.toInt32).bind fun w13 => some (some (.int 1), w13))))) else ((rv_stI q6.2 a7 ((40 * n1) + n2) n3.toInt8.toInt32).bind fun w14 => some (some (.int 1), w14)))))) else ((rv_ri (rv_EV 108 [.ref p, .int (-1000001)] q6.2)).bind fun q15 => some (some (.int q15.1), q15.2)))))) else ((rv_ri (rv_EV 108 [.ref p, .int (-1000006)] q1.2)).bind fun q16 => some (some (.int q16.1), q16.2))))) else ((rv_ri (rv_EV 108 [.ref p, .int (-1000001)] q1.2)).bind fun q17 => some (some (.int q17.1), q17.2)))) := by
  have e : rv_EV 199 [.ref p, .int n1, .int n2, .int n3] w = rv_GO rc_X5_write 0 [some (.ref p), some (.int n1), some (.int n2), some (.int n3)] [] w := by
    show cond ((rv_obj w p 4).isSome && true) _ _ = _
    rw [hp]
    rfl
  rw [e, ← rv_blk_eq [] 46]
  rfl
set_option maxRecDepth 100000 in
set_option maxHeartbeats 4000000 in
theorem ev_X5_copy (p : Nat) (n1 : Int32) (n2 : Int32) (n3 : Int32) (n4 : Int32) (n5 : Int32) (w : rv_W) (hp : (rv_obj w p 4).isSome = true) : rv_EV 200 [.ref p, .int n1, .int n2, .int n3, .int n4, .int n5] w = ((rv_ri (rv_EV 197 [.int n1] w)).bind fun q1 => (bif rv_cnd .eq q1.1 0 then ((rv_ri (rv_EV 108 [.ref p, .int (-1000001)] q1.2)).bind fun q2 => some (some (.int q2.1), q2.2)) else ((rv_ri (rv_EV 197 [.int n3] q1.2)).bind fun q3 => (bif rv_cnd .ne q3.1 0 then ((rv_ldFR q3.2 p 4 8).bind fun a4 => ((rv_ldI q3.2 a4 n1).bind fun x5 => (bif rv_cnd .lt x5 0 then ((rv_ri (rv_EV 108 [.ref p, .int (-1000006)] q3.2)).bind fun q6 => some (some (.int q6.1), q6.2)) else ((rv_ldFR q3.2 p 4 8).bind fun a7 => ((rv_ldI q3.2 a7 n3).bind fun x8 => (bif rv_cnd .ge x8 0 then ((rv_ldFR q3.2 p 4 8).bind fun a9 => ((rv_ldI q3.2 a9 n1).bind fun x10 => ((rv_ldFR q3.2 p 4 8).bind fun a11 => ((rv_ldI q3.2 a11 n3).bind fun x12 => (bif rv_cnd .eq x10 x12 then (bif rv_cnd .lt n2 0 then ((rv_ri (rv_EV 108 [.ref p, .int (-1000001)] q3.2)).bind fun q13 => some (some (.int q13.1), q13.2)) else (bif rv_cnd .lt n4 0 then ((rv_ri (rv_EV 108 [.ref p, .int (-1000001)] q3.2)).bind fun q14 => some (some (.int q14.1), q14.2)) else (bif rv_cnd .lt n5 0 then ((rv_ri (rv_EV 108 [.ref p, .int (-1000001)] q3.2)).bind fun q15 => some (some (.int q15.1), q15.2)) else ((rv_ldFR q3.2 p 4 9).bind fun a16 => ((rv_ldI q3.2 a16 n1).bind fun x17 => (bif rv_cnd .gt n5 (x17 - n2) then ((rv_ri (rv_EV 108 [.ref p, .int (-1000001)] q3.2)).bind fun q18 => some (some (.int q18.1), q18.2)) else ((rv_ldFR q3.2 p 4 9).bind fun a19 => ((rv_ldI q3.2 a19 n3).bind fun x20 => (bif rv_cnd .le n5 (x20 - n4) then rv_GO rc_X5_copy 138 [some (.ref p), none, none, none, none, some (.int n5), some (.int ((40 * n1) + n2)), some (.int ((40 * n3) + n4)), some (.int 0), none] [] q3.2 else ((rv_ri (rv_EV 108 [.ref p, .int (-1000001)] q3.2)).bind fun q21 => some (some (.int q21.1), q21.2))))))))))) else ((rv_ri (rv_EV 108 [.ref p, .int (-1000003)] q3.2)).bind fun q22 => some (some (.int q22.1), q22.2))))))) else ((rv_ri (rv_EV 108 [.ref p, .int (-1000006)] q3.2)).bind fun q23 => some (some (.int q23.1), q23.2)))))))) else ((rv_ri (rv_EV 108 [.ref p, .int (-1000001)] q3.2)).bind fun q24 => some (some (.int q24.1), q24.2)))))) := by
  have e : rv_EV 200 [.ref p, .int n1, .int n2, .int n3, .int n4, .int n5] w = rv_GO rc_X5_copy 0 [some (.ref p), some (.int n1), some (.int n2), some (.int n3), some (.int n4), some (.int n5), none, none, none, none] [] w := by
    show cond ((rv_obj w p 4).isSome && true) _ _ = _
    rw [hp]
    rfl
  rw [e, ← rv_blk_eq [138, 164] 63]
  rfl
set_option maxRecDepth 100000 in
set_option maxHeartbeats 4000000 in
theorem bk_X5_copy_138 (v0 : Nat) (v5 : Int32) (v6 : Int32) (v7 : Int32) (v8 : Int32) (w : rv_W) : rv_GO rc_X5_copy 138 [some (.ref v0), none, none, none, none, some (.int v5), some (.int v6), some (.int v7), some (.int v8), none] [] w = (bif rv_cnd .ge v8 v5 then some (some (.int v5), w) else (bif rv_cnd .ge v6 v7 then rv_GO rc_X5_copy 164 [some (.ref v0), none, none, none, none, some (.int v5), some (.int v6), some (.int v7), some (.int v8), none] [.int v8] w else rv_GO rc_X5_copy 164 [some (.ref v0), none, none, none, none, some (.int v5), some (.int v6), some (.int v7), some (.int v8), none] [.int ((v5 - 1) - v8)] w)) := by
  rw [← rv_blk_eq [138, 164] 14]
  rfl
set_option maxRecDepth 100000 in
set_option maxHeartbeats 4000000 in
theorem bk_X5_copy_164 (v0 : Nat) (v5 : Int32) (v6 : Int32) (v7 : Int32) (v8 : Int32) (s0 : Int32) (w : rv_W) : rv_GO rc_X5_copy 164 [some (.ref v0), none, none, none, none, some (.int v5), some (.int v6), some (.int v7), some (.int v8), none] [.int s0] w = ((rv_ldFR w v0 4 10).bind fun a1 => ((rv_ldFR w v0 4 10).bind fun a2 => ((rv_ldI w a2 (v6 + s0)).bind fun x3 => ((rv_stI w a1 (v7 + s0) x3).bind fun w4 => rv_GO rc_X5_copy 138 [some (.ref v0), none, none, none, none, some (.int v5), some (.int v6), some (.int v7), some (.int (v8 + 1)), none] [] w4)))) := by
  rw [← rv_blk_eq [138, 164] 17]
  rfl
set_option maxRecDepth 100000 in
set_option maxHeartbeats 4000000 in
theorem ev_X5_wants (p : Nat) (n1 : Int32) (w : rv_W) (hp : (rv_obj w p 4).isSome = true) : rv_EV 201 [.ref p, .int n1] w = ((rv_ri (rv_EV 197 [.int n1] w)).bind fun q1 => (bif rv_cnd .ne q1.1 0 then ((rv_ldFR q1.2 p 4 8).bind fun a2 => ((rv_ldI q1.2 a2 n1).bind fun x3 => (bif rv_cnd .ge x3 0 then some (some (.int 0), q1.2) else some (some (.int (-1000006)), q1.2)))) else some (some (.int (-1000001)), q1.2))) := by
  have e : rv_EV 201 [.ref p, .int n1] w = rv_GO rc_X5_wants 0 [some (.ref p), some (.int n1)] [] w := by
    show cond ((rv_obj w p 4).isSome && true) _ _ = _
    rw [hp]
    rfl
  rw [e, ← rv_blk_eq [] 12]
  rfl
set_option maxRecDepth 100000 in
set_option maxHeartbeats 4000000 in
theorem ev_X5_load (p : Nat) (n1 : Int32) (w : rv_W) (hp : (rv_obj w p 4).isSome = true) : rv_EV 202 [.ref p, .int n1] w = ((rv_ri (rv_EV 201 [.ref p, .int n1] w)).bind fun q1 => (bif rv_cnd .eq q1.1 0 then rv_GO rc_X5_load 20 [some (.ref p), some (.int n1), some (.int 0)] [] q1.2 else ((rv_ri (rv_EV 201 [.ref p, .int n1] q1.2)).bind fun q2 => ((rv_ri (rv_EV 108 [.ref p, .int q2.1] q2.2)).bind fun q3 => some (some (.int q3.1), q3.2))))) := by
  have e : rv_EV 202 [.ref p, .int n1] w = rv_GO rc_X5_load 0 [some (.ref p), some (.int n1), none] [] w := by
    show cond ((rv_obj w p 4).isSome && true) _ _ = _
    rw [hp]
    rfl
  rw [e, ← rv_blk_eq [20] 11]
  rfl
set_option maxRecDepth 100000 in
set_option maxHeartbeats 4000000 in
theorem bk_X5_load_20 (v0 : Nat) (v1 : Int32) (v2 : Int32) (w : rv_W) : rv_GO rc_X5_load 20 [some (.ref v0), some (.int v1), some (.int v2)] [] w = ((rv_ldFR w v0 4 9).bind fun a1 => ((rv_ldI w a1 v1).bind fun x2 => (bif rv_cnd .ge v2 x2 then some (some (.int v2), w) else (bif rv_cnd .ge v2 10 then some (some (.int v2), w) else ((rv_ldFR w v0 4 10).bind fun a3 => ((rv_ldI w a3 ((40 * v1) + v2)).bind fun x4 => ((rv_ri (rv_EV 107 [.long (Int32.toInt64 x4), .long (Int32.toInt64 0), .long (Int32.toInt64 99)] w)).bind fun q5 => (bif rv_cnd .eq q5.1 0 then some (some (.int v2), q5.2) else ((rv_ldFR q5.2 v0 4 0).bind fun a6 => ((rv_ldFR q5.2 v0 4 10).bind fun a7 => ((rv_ldI q5.2 a7 ((40 * v1) + v2)).bind fun x8 => ((rv_stI q5.2 a6 (4 + v2) x8).bind fun w9 => rv_GO rc_X5_load 20 [some (.ref v0), some (.int v1), some (.int (v2 + 1))] [] w9)))))))))))) := by
  rw [← rv_blk_eq [20] 40]
  rfl
set_option maxRecDepth 100000 in
set_option maxHeartbeats 4000000 in
theorem ev_X5_judge (p : Nat) (n1 : Int32) (w : rv_W) (hp : (rv_obj w p 4).isSome = true) : rv_EV 203 [.ref p, .int n1] w = ((rv_ri (rv_EV 201 [.ref p, .int n1] w)).bind fun q1 => (bif rv_cnd .eq q1.1 0 then rv_GO rc_X5_judge 20 [some (.ref p), some (.int n1), some (.int 0)] [] q1.2 else ((rv_ri (rv_EV 201 [.ref p, .int n1] q1.2)).bind fun q2 => ((rv_ri (rv_EV 108 [.ref p, .int q2.1] q2.2)).bind fun q3 => some (some (.int q3.1), q3.2))))) := by
  have e : rv_EV 203 [.ref p, .int n1] w = rv_GO rc_X5_judge 0 [some (.ref p), some (.int n1), none] [] w := by
    show cond ((rv_obj w p 4).isSome && true) _ _ = _
    rw [hp]
    rfl
  rw [e, ← rv_blk_eq [20, 64] 11]
  rfl
set_option maxRecDepth 100000 in
set_option maxHeartbeats 4000000 in
theorem bk_X5_judge_20 (v0 : Nat) (v1 : Int32) (v2 : Int32) (w : rv_W) : rv_GO rc_X5_judge 20 [some (.ref v0), some (.int v1), some (.int v2)] [] w = ((rv_ldFR w v0 4 9).bind fun a1 => ((rv_ldI w a1 v1).bind fun x2 => (bif rv_cnd .ge v2 x2 then rv_GO rc_X5_judge 64 [some (.ref v0), some (.int v1), some (.int v2)] [] w else ((rv_ri (rv_EV 113 [.ref v0, .int v2] w)).bind fun q3 => (bif rv_cnd .eq q3.1 0 then rv_GO rc_X5_judge 64 [some (.ref v0), some (.int v1), some (.int v2)] [] q3.2 else ((rv_ldFR q3.2 v0 4 10).bind fun a4 => ((rv_ldI q3.2 a4 ((40 * v1) + v2)).bind fun x5 => ((rv_ri (rv_EV 114 [.ref v0, .int v2, .int 3] q3.2)).bind fun q6 => (bif rv_cnd .ne x5 q6.1 then rv_GO rc_X5_judge 64 [some (.ref v0), some (.int v1), some (.int v2)] [] q6.2 else rv_GO rc_X5_judge 20 [some (.ref v0), some (.int v1), some (.int (v2 + 1))] [] q6.2))))))))) := by
  rw [← rv_blk_eq [20, 64] 27]
  rfl
set_option maxRecDepth 100000 in
set_option maxHeartbeats 4000000 in
theorem bk_X5_judge_64 (v0 : Nat) (v1 : Int32) (v2 : Int32) (w : rv_W) : rv_GO rc_X5_judge 64 [some (.ref v0), some (.int v1), some (.int v2)] [] w = ((rv_ldFR w v0 4 9).bind fun a1 => ((rv_ldI w a1 v1).bind fun x2 => (bif rv_cnd .ge v2 x2 then some (some (.int 0), w) else some (some (.int (1 + v2)), w)))) := by
  rw [← rv_blk_eq [20, 64] 12]
  rfl
set_option maxRecDepth 100000 in
set_option maxHeartbeats 4000000 in
theorem ev_X5_image (p : Nat) (w : rv_W) (hp : (rv_obj w p 4).isSome = true) : rv_EV 204 [.ref p] w = ((rv_ldFR w p 4 0).bind fun a1 => ((rv_ldFR w p 4 1).bind fun a2 => ((rv_rv (rv_EV 110 [.ref a1, .ref a2] w)).bind fun q3 => ((rv_stF q3 p 4 4 (.int 1)).bind fun w4 => some (some (.int 1), w4))))) := by
  have e : rv_EV 204 [.ref p] w = rv_GO rc_X5_image 0 [some (.ref p)] [] w := by
    show cond ((rv_obj w p 4).isSome && true) _ _ = _
    rw [hp]
    rfl
  rw [e, ← rv_blk_eq [] 11]
  rfl
set_option maxRecDepth 100000 in
set_option maxHeartbeats 4000000 in
theorem ev_X5_undo (p : Nat) (w : rv_W) (hp : (rv_obj w p 4).isSome = true) : rv_EV 205 [.ref p] w = ((rv_ldFI w p 4 4).bind fun x1 => (bif rv_cnd .ne x1 0 then ((rv_ldFR w p 4 1).bind fun a2 => ((rv_ldFR w p 4 0).bind fun a3 => ((rv_rv (rv_EV 110 [.ref a2, .ref a3] w)).bind fun q4 => ((rv_ldFR q4 p 4 0).bind fun a5 => ((rv_ldI q4 a5 1).bind fun x6 => some (some (.int x6), q4)))))) else ((rv_ri (rv_EV 108 [.ref p, .int (-1000004)] w)).bind fun q7 => some (some (.int q7.1), q7.2)))) := by
  have e : rv_EV 205 [.ref p] w = rv_GO rc_X5_undo 0 [some (.ref p)] [] w := by
    show cond ((rv_obj w p 4).isSome && true) _ _ = _
    rw [hp]
    rfl
  rw [e, ← rv_blk_eq [] 14]
  rfl
set_option maxRecDepth 100000 in
set_option maxHeartbeats 4000000 in
theorem ev_X5_tear (p : Nat) (w : rv_W) (hp : (rv_obj w p 4).isSome = true) : rv_EV 206 [.ref p] w = ((rv_ldFI w p 4 4).bind fun x1 => ((rv_stF w p 4 4 (.int 0)).bind fun w2 => (bif rv_cnd .eq x1 0 then some (some (.int 0), w2) else some (some (.int 1), w2)))) := by
  have e : rv_EV 206 [.ref p] w = rv_GO rc_X5_tear 0 [some (.ref p), none] [] w := by
    show cond ((rv_obj w p 4).isSome && true) _ _ = _
    rw [hp]
    rfl
  rw [e, ← rv_blk_eq [] 12]
  rfl
set_option maxRecDepth 100000 in
set_option maxHeartbeats 4000000 in
theorem ev_X5_count (p : Nat) (n1 : Int32) (w : rv_W) (hp : (rv_obj w p 4).isSome = true) : rv_EV 207 [.ref p, .int n1] w = (bif rv_eq n1 (Int32.ofInt 0) then ((rv_ldFR w p 4 0).bind fun a9 => ((rv_ldI w a9 1).bind fun x10 => some (some (.int x10), w))) else (bif rv_eq n1 (Int32.ofInt 1) then ((rv_ldFR w p 4 0).bind fun a7 => ((rv_ldI w a7 0).bind fun x8 => some (some (.int x8), w))) else (bif rv_eq n1 (Int32.ofInt 2) then rv_GO rc_X5_count 64 [some (.ref p), none, some (.int 0), some (.int 0)] [] w else (bif rv_eq n1 (Int32.ofInt 3) then ((rv_ri (rv_EV 141 [.ref p, .int 4, .int 10] w)).bind fun q6 => some (some (.int q6.1), q6.2)) else (bif rv_eq n1 (Int32.ofInt 4) then ((rv_ri (rv_EV 141 [.ref p, .int 14, .int 40] w)).bind fun q5 => some (some (.int q5.1), q5.2)) else (bif rv_eq n1 (Int32.ofInt 5) then ((rv_ldFI w p 4 7).bind fun x4 => some (some (.int x4), w)) else (bif rv_eq n1 (Int32.ofInt 6) then ((rv_ldFR w p 4 0).bind fun a2 => ((rv_ldI w a2 3).bind fun x3 => some (some (.int x3), w))) else (bif rv_eq n1 (Int32.ofInt 7) then rv_GO rc_X5_count 125 [some (.ref p), none, some (.int 0), some (.int 0)] [] w else ((rv_ri (rv_EV 108 [.ref p, .int (-1000001)] w)).bind fun q1 => some (some (.int q1.1), q1.2)))))))))) := by
  have e : rv_EV 207 [.ref p, .int n1] w = rv_GO rc_X5_count 0 [some (.ref p), some (.int n1), none, none] [] w := by
    show cond ((rv_obj w p 4).isSome && true) _ _ = _
    rw [hp]
    rfl
  rw [e, ← rv_blk_eq [64, 125] 10]
  rfl
set_option maxRecDepth 100000 in
set_option maxHeartbeats 4000000 in
theorem bk_X5_count_64 (v0 : Nat) (v2 : Int32) (v3 : Int32) (w : rv_W) : rv_GO rc_X5_count 64 [some (.ref v0), none, some (.int v2), some (.int v3)] [] w = ((rv_ldFR w v0 4 0).bind fun a1 => ((rv_ldI w a1 0).bind fun x2 => (bif rv_cnd .ge v3 x2 then some (some (.int v2), w) else ((rv_ri (rv_EV 114 [.ref v0, .int v3, .int 3] w)).bind fun q3 => ((rv_ri (rv_EV 116 [.int q3.1] q3.2)).bind fun q4 => rv_GO rc_X5_count 64 [some (.ref v0), none, some (.int (v2 + q4.1)), some (.int (v3 + 1))] [] q4.2))))) := by
  rw [← rv_blk_eq [64, 125] 18]
  rfl
set_option maxRecDepth 100000 in
set_option maxHeartbeats 4000000 in
theorem bk_X5_count_125 (v0 : Nat) (v2 : Int32) (v3 : Int32) (w : rv_W) : rv_GO rc_X5_count 125 [some (.ref v0), none, some (.int v2), some (.int v3)] [] w = (bif rv_cnd .ge v3 10 then some (some (.int v2), w) else ((rv_ldFR w v0 4 0).bind fun a1 => ((rv_ldI w a1 (86 + v3)).bind fun x2 => (bif rv_cnd .ge x2 0 then rv_GO rc_X5_count 125 [some (.ref v0), none, some (.int (v2 + 1)), some (.int (v3 + 1))] [] w else rv_GO rc_X5_count 125 [some (.ref v0), none, some (.int (v2 + 0)), some (.int (v3 + 1))] [] w)))) := by
  rw [← rv_blk_eq [64, 125] 19]
  rfl
set_option maxRecDepth 100000 in
set_option maxHeartbeats 4000000 in
theorem ev_X5_status (p : Nat) (n1 : Int32) (w : rv_W) (hp : (rv_obj w p 4).isSome = true) : rv_EV 208 [.ref p, .int n1] w = ((rv_ri (rv_EV 107 [.long (Int32.toInt64 n1), .long (Int32.toInt64 (-1)), .long (Int32.toInt64 6)] w)).bind fun q1 => (bif rv_cnd .eq q1.1 0 then ((rv_ri (rv_EV 108 [.ref p, .int (-1000001)] q1.2)).bind fun q2 => some (some (.int q2.1), q2.2)) else ((rv_ldFR q1.2 p 4 5).bind fun a3 => ((rv_ldI q1.2 a3 (n1 + 1)).bind fun x4 => some (some (.int x4), q1.2))))) := by
  have e : rv_EV 208 [.ref p, .int n1] w = rv_GO rc_X5_status 0 [some (.ref p), some (.int n1)] [] w := by
    show cond ((rv_obj w p 4).isSome && true) _ _ = _
    rw [hp]
    rfl
  rw [e, ← rv_blk_eq [] 15]
  rfl
end
section
/-! PURE ROWS: arrays as tables, the world of the reference -/
theorem rv_tab_len {α : Type} (n : Nat) (f : Nat → α) : (rv_tab n f).length = n := by simp [rv_tab]
theorem rv_tab_get {α : Type} (n : Nat) (f : Nat → α) (j : Nat) : (rv_tab n f)[j]? = if j < n then some (f j) else none := by
  by_cases h : j < n
  · simp [rv_tab, h]
  · simp [rv_tab, h]
theorem rv_tab_congr {α : Type} {n : Nat} {f g : Nat → α} (h : ∀ j, j < n → f j = g j) : rv_tab n f = rv_tab n g := by
  apply List.ext_getElem?
  intro j
  rw [rv_tab_get, rv_tab_get]
  by_cases hj : j < n
  · rw [if_pos hj, if_pos hj, h j hj]
  · rw [if_neg hj, if_neg hj]
theorem rv_tab_set (n : Nat) (f : Nat → Int32) (k : Nat) (x : Int32) : (rv_tab n f).set k x = rv_tab n (upd f k x) := by
  apply List.ext_getElem?
  intro j
  rw [List.getElem?_set, rv_tab_len, rv_tab_get, rv_tab_get]
  by_cases hk : k = j
  · subst hk
    by_cases hl : k < n
    · simp [hl, upd]
    · simp [hl]
  · have hk' : ¬ j = k := fun q => hk q.symm
    simp [hk, upd, hk']
theorem rv_ix_tab {α : Type} {n : Nat} (hn : n < 2 ^ 31) (f : Nat → α) {j : Nat} (h : j < n) : rv_ix (rv_tab n f) (nI j) = some (f j) := by
  have h1 : j < 2 ^ 31 := Nat.lt_trans h hn
  unfold rv_ix
  rw [if_neg (nI_pos h1), nI_clamp h1, rv_tab_get, if_pos h]
theorem rv_getD_tab (n : Nat) (f : Nat → Int32) {j : Nat} (h : j < n) : (rv_tab n f).getD j 0 = f j := by
  rw [List.getD_eq_getElem?_getD, rv_tab_get, if_pos h]
  rfl
theorem rv_ldI_tab {w : rv_W} {a n : Nat} {f : Nat → Int32} (ha : ¬ a = 3000) (hw : w[a]? = some (.inl (0, .inl (rv_tab n f)))) (hn : n < 2 ^ 31) {j : Nat} (h : j < n) : rv_ldI w a (nI j) = some (f j) := by
  unfold rv_ldI rv_ints
  rw [if_neg ha, hw]
  exact rv_ix_tab hn f h
theorem rv_stI_tab {w : rv_W} {a n : Nat} {f : Nat → Int32} (hw : w[a]? = some (.inl (0, .inl (rv_tab n f)))) (hn : n < 2 ^ 31) {j : Nat} (h : j < n) (x : Int32) : rv_stI w a (nI j) x = some (w.set a (.inl (0, .inl (rv_tab n (upd f j x))))) := by
  unfold rv_stI rv_ints
  rw [hw]
  simp only [Option.bind_some]
  rw [rv_ix_tab hn f h]
  simp only [Option.bind_some]
  rw [nI_clamp (Nat.lt_trans h hn), rv_tab_set]
theorem rv_stB_tab {w : rv_W} {a n : Nat} {f : Nat → Int32} (hw : w[a]? = some (.inl (1, .inl (rv_tab n f)))) (hn : n < 2 ^ 31) {j : Nat} (h : j < n) (x : Int32) : rv_stB w a (nI j) x = some (w.set a (.inl (1, .inl (rv_tab n (upd f j x.toInt8.toInt32))))) := by
  unfold rv_stB rv_byts
  rw [hw]
  simp only [Option.bind_some]
  rw [rv_ix_tab hn f h]
  simp only [Option.bind_some]
  rw [nI_clamp (Nat.lt_trans h hn), rv_tab_set]
theorem rv_ldB_tab {w : rv_W} {a n : Nat} {f : Nat → Int32} (ha : a < 2000) (hw : w[a]? = some (.inl (1, .inl (rv_tab n f)))) (hn : n < 2 ^ 31) {j : Nat} (h : j < n) : rv_ldB w a (nI j) = some (f j) := by
  unfold rv_ldB rv_byts
  rw [if_neg (Nat.not_le.mpr ha), hw]
  exact rv_ix_tab hn f h
/-! branches and answers -/
theorem cb_eq {α : Type} (x y : Int32) (a b : α) : cond (rv_cnd .eq x y) a b = if x = y then a else b := by
  by_cases h : x = y
  · rw [if_pos h, show rv_cnd .eq x y = true from @decide_eq_true _ (Classical.propDecidable _) h]; rfl
  · rw [if_neg h, show rv_cnd .eq x y = false from @decide_eq_false _ (Classical.propDecidable _) h]; rfl
theorem cb_ne {α : Type} (x y : Int32) (a b : α) : cond (rv_cnd .ne x y) a b = if x = y then b else a := by
  by_cases h : x = y
  · rw [if_pos h, show rv_cnd .ne x y = false from @decide_eq_false _ (Classical.propDecidable _) (fun q => q h)]; rfl
  · rw [if_neg h, show rv_cnd .ne x y = true from @decide_eq_true _ (Classical.propDecidable _) h]; rfl
theorem cb_lt {α : Type} (x y : Int32) (a b : α) : cond (rv_cnd .lt x y) a b = if x < y then a else b := by
  by_cases h : x < y
  · rw [if_pos h, show rv_cnd .lt x y = true from @decide_eq_true _ (Classical.propDecidable _) h]; rfl
  · rw [if_neg h, show rv_cnd .lt x y = false from @decide_eq_false _ (Classical.propDecidable _) h]; rfl
theorem cb_ge {α : Type} (x y : Int32) (a b : α) : cond (rv_cnd .ge x y) a b = if y ≤ x then a else b := by
  by_cases h : y ≤ x
  · rw [if_pos h, show rv_cnd .ge x y = true from @decide_eq_true _ (Classical.propDecidable _) h]; rfl
  · rw [if_neg h, show rv_cnd .ge x y = false from @decide_eq_false _ (Classical.propDecidable _) h]; rfl
theorem cb_gt {α : Type} (x y : Int32) (a b : α) : cond (rv_cnd .gt x y) a b = if y < x then a else b := by
  by_cases h : y < x
  · rw [if_pos h, show rv_cnd .gt x y = true from @decide_eq_true _ (Classical.propDecidable _) h]; rfl
  · rw [if_neg h, show rv_cnd .gt x y = false from @decide_eq_false _ (Classical.propDecidable _) h]; rfl
theorem cb_le {α : Type} (x y : Int32) (a b : α) : cond (rv_cnd .le x y) a b = if x ≤ y then a else b := by
  by_cases h : x ≤ y
  · rw [if_pos h, show rv_cnd .le x y = true from @decide_eq_true _ (Classical.propDecidable _) h]; rfl
  · rw [if_neg h, show rv_cnd .le x y = false from @decide_eq_false _ (Classical.propDecidable _) h]; rfl
theorem cb_q {α : Type} (x y : Int32) (a b : α) : cond (rv_eq x y) a b = if x = y then a else b := by
  by_cases h : x = y
  · rw [if_pos h, rv_eq_t h]; rfl
  · rw [if_neg h, rv_eq_f h]; rfl
theorem cb_qL {α : Type} (x y : Int64) (a b : α) : cond (rv_eqL x y) a b = if x = y then a else b := by
  by_cases h : x = y
  · rw [if_pos h, show rv_eqL x y = true from @decide_eq_true _ (Classical.propDecidable _) h]; rfl
  · rw [if_neg h, show rv_eqL x y = false from @decide_eq_false _ (Classical.propDecidable _) h]; rfl
theorem ri_s (x : Int32) (w : rv_W) : rv_ri (some (some (.int x), w)) = some (x, w) := rfl
theorem rl_s (x : Int64) (w : rv_W) : rv_rl (some (some (.long x), w)) = some (x, w) := rfl
theorem rr_s (x : Nat) (w : rv_W) : rv_rr (some (some (.ref x), w)) = some (x, w) := rfl
theorem rv_s (w : rv_W) : rv_rv (some (none, w)) = some w := rfl
theorem bz_1 : rv_bz 1 = true := rfl
theorem bz_0 : rv_bz 0 = true := rfl
theorem d4_0 : ¬ (4 : Int32) = 0 := by decide
theorem d8_0 : ¬ (8 : Int32) = 0 := by decide
theorem d3_0 : ¬ (3 : Int32) = 0 := by decide
theorem d10_0 : ¬ (10 : Int32) = 0 := by decide

/-- the reference: its arrays by their places, its numbers by their fields -/
def mM (A : Nat → Nat → Int32) (r : Nat → Int32) : rv_W := [.inr (4, [.ref 1, .ref 2, .ref 3, .ref 4, .int (r 4), .ref 5, .ref 6, .int (r 7), .ref 7, .ref 8, .ref 9, .int (r 11), .int (r 12), .int (r 13), .int (r 14), .int (r 15)]), .inl (0, .inl (rv_tab 96 (A 1))), .inl (0, .inl (rv_tab 96 (A 2))), .inl (0, .inl (rv_tab 96 (A 3))), .inl (0, .inl (rv_tab 96 (A 4))), .inl (0, .inl (rv_tab 8 (A 5))), .inl (0, .inl (rv_tab 120 (A 6))), .inl (0, .inl (rv_tab 4 (A 7))), .inl (0, .inl (rv_tab 4 (A 8))), .inl (0, .inl (rv_tab 160 (A 9)))]
def upA (A : Nat → Nat → Int32) (p : Nat) (g : Nat → Int32) : Nat → Nat → Int32 := fun q => if q = p then g else A q
def upB (A : Nat → Nat → Int32) (p j : Nat) (x : Int32) : Nat → Nat → Int32 := upA A p (upd (A p) j x)
theorem upA_s (A : Nat → Nat → Int32) (p : Nat) (g : Nat → Int32) : upA A p g p = g := by simp [upA]
theorem upA_n (A : Nat → Nat → Int32) {p q : Nat} (h : ¬ q = p) (g : Nat → Int32) : upA A p g q = A q := by simp [upA, h]
theorem ldM1 (A : Nat → Nat → Int32) (r : Nat → Int32) {j : Nat} (h : j < 96) : rv_ldI (mM A r) 1 (nI j) = some (A 1 j) := rv_ldI_tab (by decide) rfl (by decide) h
theorem stM1 (A : Nat → Nat → Int32) (r : Nat → Int32) {j : Nat} (h : j < 96) (x : Int32) : rv_stI (mM A r) 1 (nI j) x = some (mM (upB A 1 j x) r) := by
  rw [rv_stI_tab (n := 96) (f := A 1) rfl (by decide) h x]
  rfl
theorem ldM2 (A : Nat → Nat → Int32) (r : Nat → Int32) {j : Nat} (h : j < 96) : rv_ldI (mM A r) 2 (nI j) = some (A 2 j) := rv_ldI_tab (by decide) rfl (by decide) h
theorem stM2 (A : Nat → Nat → Int32) (r : Nat → Int32) {j : Nat} (h : j < 96) (x : Int32) : rv_stI (mM A r) 2 (nI j) x = some (mM (upB A 2 j x) r) := by
  rw [rv_stI_tab (n := 96) (f := A 2) rfl (by decide) h x]
  rfl
theorem ldM3 (A : Nat → Nat → Int32) (r : Nat → Int32) {j : Nat} (h : j < 96) : rv_ldI (mM A r) 3 (nI j) = some (A 3 j) := rv_ldI_tab (by decide) rfl (by decide) h
theorem stM3 (A : Nat → Nat → Int32) (r : Nat → Int32) {j : Nat} (h : j < 96) (x : Int32) : rv_stI (mM A r) 3 (nI j) x = some (mM (upB A 3 j x) r) := by
  rw [rv_stI_tab (n := 96) (f := A 3) rfl (by decide) h x]
  rfl
theorem ldM4 (A : Nat → Nat → Int32) (r : Nat → Int32) {j : Nat} (h : j < 96) : rv_ldI (mM A r) 4 (nI j) = some (A 4 j) := rv_ldI_tab (by decide) rfl (by decide) h
theorem stM4 (A : Nat → Nat → Int32) (r : Nat → Int32) {j : Nat} (h : j < 96) (x : Int32) : rv_stI (mM A r) 4 (nI j) x = some (mM (upB A 4 j x) r) := by
  rw [rv_stI_tab (n := 96) (f := A 4) rfl (by decide) h x]
  rfl
theorem ldM5 (A : Nat → Nat → Int32) (r : Nat → Int32) {j : Nat} (h : j < 8) : rv_ldI (mM A r) 5 (nI j) = some (A 5 j) := rv_ldI_tab (by decide) rfl (by decide) h
theorem stM5 (A : Nat → Nat → Int32) (r : Nat → Int32) {j : Nat} (h : j < 8) (x : Int32) : rv_stI (mM A r) 5 (nI j) x = some (mM (upB A 5 j x) r) := by
  rw [rv_stI_tab (n := 8) (f := A 5) rfl (by decide) h x]
  rfl
theorem ldM6 (A : Nat → Nat → Int32) (r : Nat → Int32) {j : Nat} (h : j < 120) : rv_ldI (mM A r) 6 (nI j) = some (A 6 j) := rv_ldI_tab (by decide) rfl (by decide) h
theorem stM6 (A : Nat → Nat → Int32) (r : Nat → Int32) {j : Nat} (h : j < 120) (x : Int32) : rv_stI (mM A r) 6 (nI j) x = some (mM (upB A 6 j x) r) := by
  rw [rv_stI_tab (n := 120) (f := A 6) rfl (by decide) h x]
  rfl
theorem ldM7 (A : Nat → Nat → Int32) (r : Nat → Int32) {j : Nat} (h : j < 4) : rv_ldI (mM A r) 7 (nI j) = some (A 7 j) := rv_ldI_tab (by decide) rfl (by decide) h
theorem stM7 (A : Nat → Nat → Int32) (r : Nat → Int32) {j : Nat} (h : j < 4) (x : Int32) : rv_stI (mM A r) 7 (nI j) x = some (mM (upB A 7 j x) r) := by
  rw [rv_stI_tab (n := 4) (f := A 7) rfl (by decide) h x]
  rfl
theorem ldM8 (A : Nat → Nat → Int32) (r : Nat → Int32) {j : Nat} (h : j < 4) : rv_ldI (mM A r) 8 (nI j) = some (A 8 j) := rv_ldI_tab (by decide) rfl (by decide) h
theorem stM8 (A : Nat → Nat → Int32) (r : Nat → Int32) {j : Nat} (h : j < 4) (x : Int32) : rv_stI (mM A r) 8 (nI j) x = some (mM (upB A 8 j x) r) := by
  rw [rv_stI_tab (n := 4) (f := A 8) rfl (by decide) h x]
  rfl
theorem ldM9 (A : Nat → Nat → Int32) (r : Nat → Int32) {j : Nat} (h : j < 160) : rv_ldI (mM A r) 9 (nI j) = some (A 9 j) := rv_ldI_tab (by decide) rfl (by decide) h
theorem stM9 (A : Nat → Nat → Int32) (r : Nat → Int32) {j : Nat} (h : j < 160) (x : Int32) : rv_stI (mM A r) 9 (nI j) x = some (mM (upB A 9 j x) r) := by
  rw [rv_stI_tab (n := 160) (f := A 9) rfl (by decide) h x]
  rfl
theorem lfM0 (A : Nat → Nat → Int32) (r : Nat → Int32) : rv_ldFR (mM A r) 0 4 0 = some 1 := rfl
theorem lfM1 (A : Nat → Nat → Int32) (r : Nat → Int32) : rv_ldFR (mM A r) 0 4 1 = some 2 := rfl
theorem lfM2 (A : Nat → Nat → Int32) (r : Nat → Int32) : rv_ldFR (mM A r) 0 4 2 = some 3 := rfl
theorem lfM3 (A : Nat → Nat → Int32) (r : Nat → Int32) : rv_ldFR (mM A r) 0 4 3 = some 4 := rfl
theorem lfM5 (A : Nat → Nat → Int32) (r : Nat → Int32) : rv_ldFR (mM A r) 0 4 5 = some 5 := rfl
theorem lfM6 (A : Nat → Nat → Int32) (r : Nat → Int32) : rv_ldFR (mM A r) 0 4 6 = some 6 := rfl
theorem lfM8 (A : Nat → Nat → Int32) (r : Nat → Int32) : rv_ldFR (mM A r) 0 4 8 = some 7 := rfl
theorem lfM9 (A : Nat → Nat → Int32) (r : Nat → Int32) : rv_ldFR (mM A r) 0 4 9 = some 8 := rfl
theorem lfM10 (A : Nat → Nat → Int32) (r : Nat → Int32) : rv_ldFR (mM A r) 0 4 10 = some 9 := rfl
theorem lgM4 (A : Nat → Nat → Int32) (r : Nat → Int32) : rv_ldFI (mM A r) 0 4 4 = some (r 4) := rfl
theorem sgM4 (A : Nat → Nat → Int32) (r : Nat → Int32) (x : Int32) : rv_stF (mM A r) 0 4 4 (.int x) = some (mM A (upd r 4 x)) := rfl
theorem lgM7 (A : Nat → Nat → Int32) (r : Nat → Int32) : rv_ldFI (mM A r) 0 4 7 = some (r 7) := rfl
theorem sgM7 (A : Nat → Nat → Int32) (r : Nat → Int32) (x : Int32) : rv_stF (mM A r) 0 4 7 (.int x) = some (mM A (upd r 7 x)) := rfl
theorem lgM11 (A : Nat → Nat → Int32) (r : Nat → Int32) : rv_ldFI (mM A r) 0 4 11 = some (r 11) := rfl
theorem sgM11 (A : Nat → Nat → Int32) (r : Nat → Int32) (x : Int32) : rv_stF (mM A r) 0 4 11 (.int x) = some (mM A (upd r 11 x)) := rfl
theorem lgM12 (A : Nat → Nat → Int32) (r : Nat → Int32) : rv_ldFI (mM A r) 0 4 12 = some (r 12) := rfl
theorem sgM12 (A : Nat → Nat → Int32) (r : Nat → Int32) (x : Int32) : rv_stF (mM A r) 0 4 12 (.int x) = some (mM A (upd r 12 x)) := rfl
theorem lgM13 (A : Nat → Nat → Int32) (r : Nat → Int32) : rv_ldFI (mM A r) 0 4 13 = some (r 13) := rfl
theorem sgM13 (A : Nat → Nat → Int32) (r : Nat → Int32) (x : Int32) : rv_stF (mM A r) 0 4 13 (.int x) = some (mM A (upd r 13 x)) := rfl
theorem lgM14 (A : Nat → Nat → Int32) (r : Nat → Int32) : rv_ldFI (mM A r) 0 4 14 = some (r 14) := rfl
theorem sgM14 (A : Nat → Nat → Int32) (r : Nat → Int32) (x : Int32) : rv_stF (mM A r) 0 4 14 (.int x) = some (mM A (upd r 14 x)) := rfl
theorem lgM15 (A : Nat → Nat → Int32) (r : Nat → Int32) : rv_ldFI (mM A r) 0 4 15 = some (r 15) := rfl
theorem sgM15 (A : Nat → Nat → Int32) (r : Nat → Int32) (x : Int32) : rv_stF (mM A r) 0 4 15 (.int x) = some (mM A (upd r 15 x)) := rfl
theorem obM (A : Nat → Nat → Int32) (r : Nat → Int32) : (rv_obj (mM A r) 0 4).isSome = true := rfl
theorem mM_congr {A B : Nat → Nat → Int32} (r : Nat → Int32) (h1 : ∀ j, j < 96 → A 1 j = B 1 j) (h2 : ∀ j, j < 96 → A 2 j = B 2 j) (h3 : ∀ j, j < 96 → A 3 j = B 3 j) (h4 : ∀ j, j < 96 → A 4 j = B 4 j) (h5 : ∀ j, j < 8 → A 5 j = B 5 j) (h6 : ∀ j, j < 120 → A 6 j = B 6 j) (h7 : ∀ j, j < 4 → A 7 j = B 7 j) (h8 : ∀ j, j < 4 → A 8 j = B 8 j) (h9 : ∀ j, j < 160 → A 9 j = B 9 j) : mM A r = mM B r := by
  unfold mM
  rw [rv_tab_congr h1, rv_tab_congr h2, rv_tab_congr h3, rv_tab_congr h4, rv_tab_congr h5, rv_tab_congr h6, rv_tab_congr h7, rv_tab_congr h8, rv_tab_congr h9]
end
section
/-! THE REFERENCE, its small methods -/
theorem i10 (p : Prop) [Decidable p] : ((if p then (1 : Int32) else 0) = 0) = ¬ p := by
  by_cases h : p <;> simp [h]
theorem ix_rg {x : Int32} {n : Nat} (hn : n < 2 ^ 31) (h0 : 0 ≤ x) (h1 : x < nI n) : ∃ t : Nat, t < n ∧ x = nI t := by
  rcases pk_ix x hn with h | h | h
  · exact absurd h (Int32.not_lt.mpr h0)
  · exact absurd h1 (Int32.not_lt.mpr h)
  · exact h
theorem m_isIn (x a b : Int32) (w : rv_W) : rv_EV 107 [.long x.toInt64, .long a.toInt64, .long b.toInt64] w = some (some (.int (if a ≤ x ∧ x ≤ b then 1 else 0)), w) := by
  rw [ev_X5_isIn]
  simp only [cb_eq, cb_ne, cb_lt, cb_ge, cb_gt, cb_le, cb_q, cb_qL, ri_s, rl_s, rr_s, rv_s, Option.bind_some, i10, cond_true, cond_false, lg_cmp_lt, lg_cmp_gt]
  have e : ∀ y z : Int32, y.toInt64 < z.toInt64 ↔ y < z := fun y z => by
    rw [Int64.lt_iff_toInt_lt, Int32.lt_iff_toInt_lt, Int32.toInt_toInt64, Int32.toInt_toInt64]
  simp only [e]
  by_cases h1 : x < a
  · rw [if_pos h1, if_neg (fun q => absurd h1 (Int32.not_lt.mpr q.1))]
  · rw [if_neg h1]
    by_cases h2 : b < x
    · rw [if_pos h2, if_neg (fun q => absurd h2 (Int32.not_lt.mpr q.2))]
    · rw [if_neg h2, if_pos ⟨Int32.not_lt.mp h1, Int32.not_lt.mp h2⟩]
theorem m_isTub (x : Int32) (w : rv_W) : rv_EV 111 [.int x] w = some (some (.int (if 0 ≤ x ∧ x < 10 then 1 else 0)), w) := by
  rw [ev_X5_isTub]
  simp only [cb_eq, cb_ne, cb_lt, cb_ge, cb_gt, cb_le, cb_q, cb_qL, ri_s, rl_s, rr_s, rv_s, Option.bind_some, i10, cond_true, cond_false]
  by_cases h1 : x < 0
  · rw [if_pos h1, if_neg (fun q => absurd h1 (Int32.not_lt.mpr q.1))]
  · rw [if_neg h1]
    by_cases h2 : 10 ≤ x
    · rw [if_pos h2, if_neg (fun q => absurd q.2 (Int32.not_lt.mpr h2))]
    · rw [if_neg h2, if_pos ⟨Int32.not_lt.mp h1, Int32.not_le.mp h2⟩]
theorem m_isScent (x : Int32) (w : rv_W) : rv_EV 112 [.int x] w = some (some (.int (if 0 ≤ x ∧ x < 4 then 1 else 0)), w) := by
  rw [ev_X5_isScent]
  simp only [cb_eq, cb_ne, cb_lt, cb_ge, cb_gt, cb_le, cb_q, cb_qL, ri_s, rl_s, rr_s, rv_s, Option.bind_some, i10, cond_true, cond_false]
  by_cases h1 : x < 0
  · rw [if_pos h1, if_neg (fun q => absurd h1 (Int32.not_lt.mpr q.1))]
  · rw [if_neg h1]
    by_cases h2 : 4 ≤ x
    · rw [if_pos h2, if_neg (fun q => absurd q.2 (Int32.not_lt.mpr h2))]
    · rw [if_neg h2, if_pos ⟨Int32.not_lt.mp h1, Int32.not_le.mp h2⟩]
theorem m_isSheet (x : Int32) (w : rv_W) : rv_EV 197 [.int x] w = some (some (.int (if 0 ≤ x ∧ x < 4 then 1 else 0)), w) := by
  rw [ev_X5_isSheet]
  simp only [cb_eq, cb_ne, cb_lt, cb_ge, cb_gt, cb_le, cb_q, cb_qL, ri_s, rl_s, rr_s, rv_s, Option.bind_some, i10, cond_true, cond_false]
  by_cases h1 : x < 0
  · rw [if_pos h1, if_neg (fun q => absurd h1 (Int32.not_lt.mpr q.1))]
  · rw [if_neg h1]
    by_cases h2 : 4 ≤ x
    · rw [if_pos h2, if_neg (fun q => absurd q.2 (Int32.not_lt.mpr h2))]
    · rw [if_neg h2, if_pos ⟨Int32.not_lt.mp h1, Int32.not_le.mp h2⟩]
/-- a finding is counted -/
def fnd (A : Nat → Nat → Int32) (k : Nat) : Nat → Nat → Int32 := upB (upB A 5 0 (A 5 0 + 1)) 5 (k + 1) (A 5 (k + 1) + 1)
theorem m_finds (A : Nat → Nat → Int32) (r : Nat → Int32) {k : Nat} (hk : k < 7) {x : Int32} (hx : ((-1000001) - x) + 1 = nI (k + 1)) : rv_EV 108 [.ref 0, .int x] (mM A r) = some (some (.int x), mM (fnd A k) r) := by
  rw [ev_X5_finds _ _ _ (obM A r)]
  have h1 := ldM5 A r (j := 0) (by decide)
  have h2 := stM5 A r (j := 0) (by decide) (A 5 0 + 1)
  have h3 := ldM5 (upB A 5 0 (A 5 0 + 1)) r (j := k + 1) (by omega)
  have h4 := stM5 (upB A 5 0 (A 5 0 + 1)) r (j := k + 1) (by omega) (A 5 (k + 1) + 1)
  rw [nI_0] at h1 h2
  have e : upB A 5 0 (A 5 0 + 1) 5 (k + 1) = A 5 (k + 1) := by simp [upB, upA, upd]
  rw [e] at h3
  simp only [cb_eq, cb_ne, cb_lt, cb_ge, cb_gt, cb_le, cb_q, cb_qL, ri_s, rl_s, rr_s, rv_s, Option.bind_some, i10, cond_true, cond_false, lfM0, lfM1, lfM2, lfM3, lfM5, lfM6, lfM8, lfM9, lfM10, lgM4, sgM4, lgM7, sgM7, lgM11, sgM11, lgM12, sgM12, lgM13, sgM13, lgM14, sgM14, lgM15, sgM15, h1, h2, hx, h3, h4]
  rfl
theorem m_f0 (A : Nat → Nat → Int32) (r : Nat → Int32) : rv_EV 108 [.ref 0, .int (-1000001)] (mM A r) = some (some (.int (-1000001)), mM (fnd A 0) r) := m_finds A r (by decide) (by decide)
theorem m_f1 (A : Nat → Nat → Int32) (r : Nat → Int32) : rv_EV 108 [.ref 0, .int (-1000002)] (mM A r) = some (some (.int (-1000002)), mM (fnd A 1) r) := m_finds A r (by decide) (by decide)
theorem m_f2 (A : Nat → Nat → Int32) (r : Nat → Int32) : rv_EV 108 [.ref 0, .int (-1000003)] (mM A r) = some (some (.int (-1000003)), mM (fnd A 2) r) := m_finds A r (by decide) (by decide)
theorem m_f3 (A : Nat → Nat → Int32) (r : Nat → Int32) : rv_EV 108 [.ref 0, .int (-1000004)] (mM A r) = some (some (.int (-1000004)), mM (fnd A 3) r) := m_finds A r (by decide) (by decide)
theorem m_f4 (A : Nat → Nat → Int32) (r : Nat → Int32) : rv_EV 108 [.ref 0, .int (-1000005)] (mM A r) = some (some (.int (-1000005)), mM (fnd A 4) r) := m_finds A r (by decide) (by decide)
theorem m_f5 (A : Nat → Nat → Int32) (r : Nat → Int32) : rv_EV 108 [.ref 0, .int (-1000006)] (mM A r) = some (some (.int (-1000006)), mM (fnd A 5) r) := m_finds A r (by decide) (by decide)
theorem m_f6 (A : Nat → Nat → Int32) (r : Nat → Int32) : rv_EV 108 [.ref 0, .int (-1000007)] (mM A r) = some (some (.int (-1000007)), mM (fnd A 6) r) := m_finds A r (by decide) (by decide)
theorem m_becomes (A : Nat → Nat → Int32) (r : Nat → Int32) {j : Nat} (h : j < 96) (v : Int32) : rv_EV 109 [.ref 0, .int (nI j), .int v] (mM A r) = some (some (.int (A 1 j)), mM (upB A 1 j v) r) := by
  rw [ev_X5_becomes _ _ _ _ (obM A r)]
  simp only [cb_eq, cb_ne, cb_lt, cb_ge, cb_gt, cb_le, cb_q, cb_qL, ri_s, rl_s, rr_s, rv_s, Option.bind_some, i10, cond_true, cond_false, lfM0, lfM1, lfM2, lfM3, lfM5, lfM6, lfM8, lfM9, lfM10, lgM4, sgM4, lgM7, sgM7, lgM11, sgM11, lgM12, sgM12, lgM13, sgM13, lgM14, sgM14, lgM15, sgM15, ldM1 A r h, stM1 A r h]
/-! places -/
theorem c4_ (t : Nat) : 4 + nI t = nI (4 + t) := nI_add 4 t
theorem c14_ (t c : Nat) : (14 + (4 * nI t)) + nI c = nI (14 + 4 * t + c) := by
  rw [show (4 : Int32) = nI 4 from rfl, show (14 : Int32) = nI 14 from rfl, pk_mul, nI_add, nI_add]
theorem c54_ (b k : Nat) : (54 + (4 * nI b)) + nI k = nI (54 + 4 * b + k) := by
  rw [show (4 : Int32) = nI 4 from rfl, show (54 : Int32) = nI 54 from rfl, pk_mul, nI_add, nI_add]
theorem c54a (b : Nat) : 54 + (4 * nI b) = nI (54 + 4 * b) := by
  rw [show (4 : Int32) = nI 4 from rfl, show (54 : Int32) = nI 54 from rfl, pk_mul, nI_add]
theorem m_placeOf (t c : Nat) (w : rv_W) : rv_EV 118 [.int (nI t), .int (nI c)] w = some (some (.int (nI (14 + 4 * t + c))), w) := by
  rw [ev_X5_placeOf, c14_]
theorem m_its (A : Nat → Nat → Int32) (r : Nat → Int32) {b k : Nat} (hb : b < 8) (hk : k < 4) : rv_EV 114 [.ref 0, .int (nI b), .int (nI k)] (mM A r) = some (some (.int (A 1 (54 + 4 * b + k))), mM A r) := by
  rw [ev_X5_its _ _ _ _ (obM A r), c54_]
  simp only [cb_eq, cb_ne, cb_lt, cb_ge, cb_gt, cb_le, cb_q, cb_qL, ri_s, rl_s, rr_s, rv_s, Option.bind_some, i10, cond_true, cond_false, lfM0, lfM1, lfM2, lfM3, lfM5, lfM6, lfM8, lfM9, lfM10, lgM4, sgM4, lgM7, sgM7, lgM11, sgM11, lgM12, sgM12, lgM13, sgM13, lgM14, sgM14, lgM15, sgM15, ldM1 A r (show 54 + 4 * b + k < 96 by omega)]
theorem m_isBather (A : Nat → Nat → Int32) (r : Nat → Int32) (x : Int32) : rv_EV 113 [.ref 0, .int x] (mM A r) = some (some (.int (if 0 ≤ x ∧ x < A 1 0 then 1 else 0)), mM A r) := by
  have h1 := ldM1 A r (j := 0) (by decide)
  rw [nI_0] at h1
  rw [ev_X5_isBather _ _ _ (obM A r)]
  simp only [cb_eq, cb_ne, cb_lt, cb_ge, cb_gt, cb_le, cb_q, cb_qL, ri_s, rl_s, rr_s, rv_s, Option.bind_some, i10, cond_true, cond_false, lfM0, lfM1, lfM2, lfM3, lfM5, lfM6, lfM8, lfM9, lfM10, lgM4, sgM4, lgM7, sgM7, lgM11, sgM11, lgM12, sgM12, lgM13, sgM13, lgM14, sgM14, lgM15, sgM15, h1]
  by_cases h1 : x < 0
  · rw [if_pos h1, if_neg (fun q => absurd h1 (Int32.not_lt.mpr q.1))]
  · rw [if_neg h1]
    by_cases h2 : A 1 0 ≤ x
    · rw [if_pos h2, if_neg (fun q => absurd q.2 (Int32.not_lt.mpr h2))]
    · rw [if_neg h2, if_pos ⟨Int32.not_lt.mp h1, Int32.not_le.mp h2⟩]
theorem m_orNone (A : Nat → Nat → Int32) (r : Nat → Int32) (x : Int32) : rv_EV 115 [.ref 0, .int x] (mM A r) = if 0 ≤ x then some (some (.int x), mM A r) else some (some (.int (-1000004)), mM (fnd A 3) r) := by
  rw [ev_X5_orNone _ _ _ (obM A r)]
  simp only [cb_eq, cb_ne, cb_lt, cb_ge, cb_gt, cb_le, cb_q, cb_qL, ri_s, rl_s, rr_s, rv_s, Option.bind_some, i10, cond_true, cond_false, m_f3]
theorem m_warm (A : Nat → Nat → Int32) (r : Nat → Int32) (x y : Int32) : rv_EV 117 [.ref 0, .int x, .int y] (mM A r) =
    if (0 ≤ x ∧ x < 10) ∧ (0 ≤ y ∧ y ≤ 99) then some (some (.int (A 1 (4 + x.toNatClampNeg))), mM (upB A 1 (4 + x.toNatClampNeg) y) r) else some (some (.int (-1000001)), mM (fnd A 0) r) := by
  rw [ev_X5_warm _ _ _ _ (obM A r), m_isTub]
  simp only [cb_eq, cb_ne, cb_lt, cb_ge, cb_gt, cb_le, cb_q, cb_qL, ri_s, rl_s, rr_s, rv_s, Option.bind_some, i10, cond_true, cond_false, m_f0, m_isIn]
  by_cases h1 : 0 ≤ x ∧ x < 10
  · by_cases h2 : 0 ≤ y ∧ y ≤ 99
    · obtain ⟨t, ht, rfl⟩ := ix_rg (n := 10) (by decide) h1.1 h1.2
      simp only [h1, h2, not_true_eq_false, if_false, and_self, if_true, c4_, m_becomes A r (show 4 + t < 96 by omega), cb_eq, cb_ne, cb_lt, cb_ge, cb_gt, cb_le, cb_q, cb_qL, ri_s, rl_s, rr_s, rv_s, Option.bind_some, i10, cond_true, cond_false, nI_clamp (show t < 2 ^ 31 by omega)]
    · simp only [h1, h2, not_true_eq_false, not_false_eq_true, if_false, if_true, and_false, and_self]
  · simp only [h1, not_false_eq_true, if_true, false_and, if_false]
/-! loops over the four scents -/
def allS (s : Nat → Int32) (t : Nat) : Int32 := 0 + s (14 + 4 * t + 0) + s (14 + 4 * t + 1) + s (14 + 4 * t + 2) + s (14 + 4 * t + 3)
theorem m_allIn (A : Nat → Nat → Int32) (r : Nat → Int32) {t : Nat} (ht : t < 10) : rv_EV 120 [.ref 0, .int (nI t)] (mM A r) = some (some (.int (allS (A 1) t)), mM A r) := by
  have st : ∀ (c : Nat) (v : Int32), c < 4 → rv_GO rc_X5_allIn 4 [some (.ref 0), some (.int (nI t)), some (.int v), some (.int (nI c))] [] (mM A r) = rv_GO rc_X5_allIn 4 [some (.ref 0), some (.int (nI t)), some (.int (v + A 1 (14 + 4 * t + c))), some (.int (nI (c + 1)))] [] (mM A r) := by
    intro c v hc
    rw [bk_X5_allIn_4]
    simp only [cb_eq, cb_ne, cb_lt, cb_ge, cb_gt, cb_le, cb_q, cb_qL, ri_s, rl_s, rr_s, rv_s, Option.bind_some, i10, cond_true, cond_false, lfM0, lfM1, lfM2, lfM3, lfM5, lfM6, lfM8, lfM9, lfM10, lgM4, sgM4, lgM7, sgM7, lgM11, sgM11, lgM12, sgM12, lgM13, sgM13, lgM14, sgM14, lgM15, sgM15, m_placeOf, ldM1 A r (show 14 + 4 * t + c < 96 by omega), nI_1, show ¬ (4 : Int32) ≤ nI c from nI_ge (a := c) (b := 4) hc (by decide), if_false]
  rw [ev_X5_allIn _ _ _ (obM A r)]
  rw [show (0 : Int32) = nI 0 from rfl, st 0 _ (by decide), st 1 _ (by decide), st 2 _ (by decide), st 3 _ (by decide), bk_X5_allIn_4]
  simp only [cb_eq, cb_ne, cb_lt, cb_ge, cb_gt, cb_le, cb_q, cb_qL, ri_s, rl_s, rr_s, rv_s, Option.bind_some, i10, cond_true, cond_false, show (4 : Int32) ≤ nI (3 + 1) from by decide, if_true]
  rfl
end
section
/-! THE SPEC, on rows: 0 bathers, 1 hour, 2 fresh, 3 z, 4.. warmth, 14.. scents, 54.. bathers (kind, tub, own, knows), 86.. spots -/
def popS (k : Nat) : Nat := k % 2 + k / 2 % 2 + k / 4 % 2 + k / 8 % 2 + k / 16 % 2 + k / 32 % 2 + k / 64 % 2 + k / 128 % 2
def mnL : Nat → Int32 → Int32 → Option Int32
  | 0, _, _ => none
  | n + 1, v, x => if x = 0 then some v else mnL n (v + 1) (x &&& (x - 1))
theorem mnL_pop : ∀ k : Fin 256, mnL 9 0 (nI k.val) = some (nI (popS k.val)) := by decide +kernel
theorem m_many_L : ∀ (n : Nat) (v x y : Int32) (w : rv_W), mnL n v x = some y → rv_GO rc_X5_many 4 [none, some (.int v), some (.int x)] [] w = some (some (.int y), w)
  | 0, _, _, _, _, h => by cases h
  | n + 1, v, x, y, w, h => by
    rw [mnL] at h
    rw [bk_X5_many_4]
    simp only [cb_eq, cb_ne, cb_lt, cb_ge, cb_gt, cb_le, cb_q, cb_qL, ri_s, rl_s, rr_s, rv_s, Option.bind_some, i10, cond_true, cond_false]
    by_cases hx : x = 0
    · rw [if_pos hx] at h ⊢
      cases h
      rfl
    · rw [if_neg hx] at h ⊢
      exact m_many_L n _ _ _ w h
theorem m_many {k : Nat} (hk : k < 256) (w : rv_W) : rv_EV 116 [.int (nI k)] w = some (some (.int (nI (popS k))), w) := by
  rw [ev_X5_many]
  exact m_many_L 9 _ _ _ w (mnL_pop ⟨k, hk⟩)
/-- a bather's numbers -/
def kdS (s : Nat → Int32) (b : Nat) : Nat := (s (54 + 4 * b + 0)).toNatClampNeg
def tbS (s : Nat → Int32) (b : Nat) : Nat := (s (54 + 4 * b + 1)).toNatClampNeg
def owS (s : Nat → Int32) (b : Nat) : Nat := (s (54 + 4 * b + 2)).toNatClampNeg
def knS (s : Nat → Int32) (b : Nat) : Nat := (s (54 + 4 * b + 3)).toNatClampNeg
def okB (s : Nat → Int32) (b : Nat) : Prop := (s (54 + 4 * b + 0) = nI (kdS s b) ∧ kdS s b < 7) ∧ (s (54 + 4 * b + 1) = nI (tbS s b) ∧ tbS s b < 10) ∧ (s (54 + 4 * b + 2) = nI (owS s b) ∧ owS s b < 4) ∧ (s (54 + 4 * b + 3) = nI (knS s b) ∧ knS s b < 16)
def addS (s : Nat → Int32) (b : Nat) : Int32 := match kdS s b with
  | 1 => 128
  | 2 => 32
  | 3 => 8
  | 4 => 8 + nI (popS (knS s b))
  | 5 => if s (14 + 4 * tbS s b + owS s b) = 0 then 64 else 0
  | 6 => 128 + s (4 + tbS s b)
  | _ => 64
def coolS (k : Nat) : Int32 := match k with
  | 1 => 8
  | 2 => 3
  | 3 => 3
  | 4 => 3
  | 5 => 10
  | 6 => 16
  | _ => 5
def noseS (k : Nat) : Int32 := match k with
  | 2 => 50
  | 3 => 30
  | 4 => 10
  | 5 => 400
  | 6 => 300
  | _ => 100
/-- what one smells: the set, behind c scents -/
def smlS (s : Nat → Int32) (b : Nat) : Nat → Int32
  | 0 => 0
  | c + 1 => smlS s b c ||| (if ¬ c = owS s b ∧ noseS (kdS s b) + (allS s (tbS s b) - s (14 + 4 * tbS s b + c)) / 8 ≤ s (14 + 4 * tbS s b + c) then 1 <<< (nI c &&& 31) else 0)
def flwS (s : Nat → Int32) : Nat → Int32 := fun i => if i = 4 then s 2 else if 4 < i ∧ i < 14 then (if s (i - 1) - 4 < 0 then 0 else s (i - 1) - 4) else if 14 ≤ i ∧ i < 18 then 0 else if 18 ≤ i ∧ i < 54 then s (i - 4) * 3 / 4 else s i
def coldS (s : Nat → Int32) (b : Nat) : Nat → Int32 := upd s (4 + tbS s b) (if s (4 + tbS s b) < coolS (kdS s b) then 0 else s (4 + tbS s b) - coolS (kdS s b))
def batS (s : Nat → Int32) (b : Nat) : Nat → Int32 := upd (coldS s b) (14 + 4 * tbS s b + owS s b) (if 9999 < coldS s b (14 + 4 * tbS s b + owS s b) + addS (coldS s b) b then 9999 else coldS s b (14 + 4 * tbS s b + owS s b) + addS (coldS s b) b)
def hereS (gone : Int32) (b : Nat) : Prop := (gone >>> (nI b &&& 31)) &&& 1 = 0
/-- bathers 0 .. n-1 bathe -/
def batsS (gone : Int32) (s : Nat → Int32) : Nat → Nat → Int32
  | 0 => s
  | b + 1 => if (gone >>> (nI b &&& 31)) &&& 1 = 0 then batS (batsS gone s b) b else batsS gone s b
/-- bathers 0 .. n-1 smell -/
def knoS (gone : Int32) (s : Nat → Int32) : Nat → Nat → Int32
  | 0 => s
  | b + 1 => if (gone >>> (nI b &&& 31)) &&& 1 = 0 then upd (knoS gone s b) (54 + 4 * b + 3) (knoS gone s b (54 + 4 * b + 3) ||| smlS (knoS gone s b) b 4) else knoS gone s b
def hourS (gone : Int32) (s : Nat → Int32) : Nat → Int32 := upd (knoS gone (batsS gone (flwS s) (s 0).toNatClampNeg) (s 0).toNatClampNeg) 1 (s 1 + 1)
def hoursS (gone : Int32) (s : Nat → Int32) : Nat → Nat → Int32
  | 0 => s
  | n + 1 => hourS gone (hoursS gone s n)
end
section
/-! switches and literals -/
theorem sw0 {k : Nat} (hk : k < 1000) : (nI k = Int32.ofInt 0) = (k = 0) := by
  rw [show Int32.ofInt 0 = nI 0 from rfl]
  exact propext (nI_eq (by omega) (by decide))
theorem sw1 {k : Nat} (hk : k < 1000) : (nI k = Int32.ofInt 1) = (k = 1) := by
  rw [show Int32.ofInt 1 = nI 1 from rfl]
  exact propext (nI_eq (by omega) (by decide))
theorem sw2 {k : Nat} (hk : k < 1000) : (nI k = Int32.ofInt 2) = (k = 2) := by
  rw [show Int32.ofInt 2 = nI 2 from rfl]
  exact propext (nI_eq (by omega) (by decide))
theorem sw3 {k : Nat} (hk : k < 1000) : (nI k = Int32.ofInt 3) = (k = 3) := by
  rw [show Int32.ofInt 3 = nI 3 from rfl]
  exact propext (nI_eq (by omega) (by decide))
theorem sw4 {k : Nat} (hk : k < 1000) : (nI k = Int32.ofInt 4) = (k = 4) := by
  rw [show Int32.ofInt 4 = nI 4 from rfl]
  exact propext (nI_eq (by omega) (by decide))
theorem sw5 {k : Nat} (hk : k < 1000) : (nI k = Int32.ofInt 5) = (k = 5) := by
  rw [show Int32.ofInt 5 = nI 5 from rfl]
  exact propext (nI_eq (by omega) (by decide))
theorem sw6 {k : Nat} (hk : k < 1000) : (nI k = Int32.ofInt 6) = (k = 6) := by
  rw [show Int32.ofInt 6 = nI 6 from rfl]
  exact propext (nI_eq (by omega) (by decide))
theorem sw7 {k : Nat} (hk : k < 1000) : (nI k = Int32.ofInt 7) = (k = 7) := by
  rw [show Int32.ofInt 7 = nI 7 from rfl]
  exact propext (nI_eq (by omega) (by decide))
theorem sw8 {k : Nat} (hk : k < 1000) : (nI k = Int32.ofInt 8) = (k = 8) := by
  rw [show Int32.ofInt 8 = nI 8 from rfl]
  exact propext (nI_eq (by omega) (by decide))
theorem sw9 {k : Nat} (hk : k < 1000) : (nI k = Int32.ofInt 9) = (k = 9) := by
  rw [show Int32.ofInt 9 = nI 9 from rfl]
  exact propext (nI_eq (by omega) (by decide))
theorem sw10 {k : Nat} (hk : k < 1000) : (nI k = Int32.ofInt 10) = (k = 10) := by
  rw [show Int32.ofInt 10 = nI 10 from rfl]
  exact propext (nI_eq (by omega) (by decide))
theorem sw11 {k : Nat} (hk : k < 1000) : (nI k = Int32.ofInt 11) = (k = 11) := by
  rw [show Int32.ofInt 11 = nI 11 from rfl]
  exact propext (nI_eq (by omega) (by decide))
theorem sw12 {k : Nat} (hk : k < 1000) : (nI k = Int32.ofInt 12) = (k = 12) := by
  rw [show Int32.ofInt 12 = nI 12 from rfl]
  exact propext (nI_eq (by omega) (by decide))
theorem sw13 {k : Nat} (hk : k < 1000) : (nI k = Int32.ofInt 13) = (k = 13) := by
  rw [show Int32.ofInt 13 = nI 13 from rfl]
  exact propext (nI_eq (by omega) (by decide))
theorem sw14 {k : Nat} (hk : k < 1000) : (nI k = Int32.ofInt 14) = (k = 14) := by
  rw [show Int32.ofInt 14 = nI 14 from rfl]
  exact propext (nI_eq (by omega) (by decide))
theorem sw15 {k : Nat} (hk : k < 1000) : (nI k = Int32.ofInt 15) = (k = 15) := by
  rw [show Int32.ofInt 15 = nI 15 from rfl]
  exact propext (nI_eq (by omega) (by decide))
theorem sw16 {k : Nat} (hk : k < 1000) : (nI k = Int32.ofInt 16) = (k = 16) := by
  rw [show Int32.ofInt 16 = nI 16 from rfl]
  exact propext (nI_eq (by omega) (by decide))
theorem sw17 {k : Nat} (hk : k < 1000) : (nI k = Int32.ofInt 17) = (k = 17) := by
  rw [show Int32.ofInt 17 = nI 17 from rfl]
  exact propext (nI_eq (by omega) (by decide))
theorem m_its0 (A : Nat → Nat → Int32) (r : Nat → Int32) {b : Nat} (hb : b < 8) : rv_EV 114 [.ref 0, .int (nI b), .int 0] (mM A r) = some (some (.int (A 1 (54 + 4 * b + 0))), mM A r) := m_its A r hb (k := 0) (by decide)
theorem m_its1 (A : Nat → Nat → Int32) (r : Nat → Int32) {b : Nat} (hb : b < 8) : rv_EV 114 [.ref 0, .int (nI b), .int 1] (mM A r) = some (some (.int (A 1 (54 + 4 * b + 1))), mM A r) := m_its A r hb (k := 1) (by decide)
theorem m_its2 (A : Nat → Nat → Int32) (r : Nat → Int32) {b : Nat} (hb : b < 8) : rv_EV 114 [.ref 0, .int (nI b), .int 2] (mM A r) = some (some (.int (A 1 (54 + 4 * b + 2))), mM A r) := m_its A r hb (k := 2) (by decide)
theorem m_its3 (A : Nat → Nat → Int32) (r : Nat → Int32) {b : Nat} (hb : b < 8) : rv_EV 114 [.ref 0, .int (nI b), .int 3] (mM A r) = some (some (.int (A 1 (54 + 4 * b + 3))), mM A r) := m_its A r hb (k := 3) (by decide)

theorem m_adds (A : Nat → Nat → Int32) (r : Nat → Int32) {b : Nat} (hb : b < 8) (ok : okB (A 1) b) : rv_EV 128 [.ref 0, .int (nI b)] (mM A r) = some (some (.int (addS (A 1) b)), mM A r) := by
  obtain ⟨⟨k1, k2⟩, ⟨t1, t2⟩, ⟨o1, o2⟩, ⟨n1, n2⟩⟩ := ok
  rw [ev_X5_adds _ _ _ (obM A r), m_its0 A r hb, k1]
  unfold addS
  generalize kdS (A 1) b = k at k2 ⊢
  have hk : k < 1000 := by omega
  simp only [cb_eq, cb_ne, cb_lt, cb_ge, cb_gt, cb_le, cb_q, cb_qL, ri_s, rl_s, rr_s, rv_s, Option.bind_some, i10, cond_true, cond_false, lfM0, lfM1, lfM2, lfM3, lfM5, lfM6, lfM8, lfM9, lfM10, lgM4, sgM4, lgM7, sgM7, lgM11, sgM11, lgM12, sgM12, lgM13, sgM13, lgM14, sgM14, lgM15, sgM15, sw1 hk, sw2 hk, sw3 hk, sw4 hk, sw5 hk, sw6 hk, m_its1 A r hb, m_its2 A r hb, m_its3 A r hb, n1, t1, o1, m_placeOf, c4_, m_many (show knS (A 1) b < 256 by omega), ldM1 A r (show 14 + 4 * tbS (A 1) b + owS (A 1) b < 96 by omega), ldM1 A r (show 4 + tbS (A 1) b < 96 by omega)]
  rcases (show k = 0 ∨ k = 1 ∨ k = 2 ∨ k = 3 ∨ k = 4 ∨ k = 5 ∨ k = 6 by omega) with rfl | rfl | rfl | rfl | rfl | rfl | rfl
  case inr.inr.inr.inr.inr.inl =>
    by_cases h : A 1 (14 + 4 * tbS (A 1) b + owS (A 1) b) = 0 <;> simp [h]
  all_goals simp
theorem m_cools (A : Nat → Nat → Int32) (r : Nat → Int32) {b : Nat} (hb : b < 8) (ok : okB (A 1) b) : rv_EV 129 [.ref 0, .int (nI b)] (mM A r) = some (some (.int (coolS (kdS (A 1) b))), mM A r) := by
  obtain ⟨⟨k1, k2⟩, -⟩ := ok
  rw [ev_X5_cools _ _ _ (obM A r), m_its0 A r hb, k1]
  generalize kdS (A 1) b = k at k2 ⊢
  have hk : k < 1000 := by omega
  simp only [cb_eq, cb_ne, cb_lt, cb_ge, cb_gt, cb_le, cb_q, cb_qL, ri_s, rl_s, rr_s, rv_s, Option.bind_some, i10, cond_true, cond_false, sw1 hk, sw2 hk, sw3 hk, sw4 hk, sw5 hk, sw6 hk]
  rcases (show k = 0 ∨ k = 1 ∨ k = 2 ∨ k = 3 ∨ k = 4 ∨ k = 5 ∨ k = 6 by omega) with rfl | rfl | rfl | rfl | rfl | rfl | rfl <;> simp [coolS]
theorem m_nose (A : Nat → Nat → Int32) (r : Nat → Int32) {b : Nat} (hb : b < 8) (ok : okB (A 1) b) : rv_EV 130 [.ref 0, .int (nI b)] (mM A r) = some (some (.int (noseS (kdS (A 1) b))), mM A r) := by
  obtain ⟨⟨k1, k2⟩, -⟩ := ok
  rw [ev_X5_nose _ _ _ (obM A r), m_its0 A r hb, k1]
  generalize kdS (A 1) b = k at k2 ⊢
  have hk : k < 1000 := by omega
  simp only [cb_eq, cb_ne, cb_lt, cb_ge, cb_gt, cb_le, cb_q, cb_qL, ri_s, rl_s, rr_s, rv_s, Option.bind_some, i10, cond_true, cond_false, sw2 hk, sw3 hk, sw4 hk, sw5 hk, sw6 hk]
  rcases (show k = 0 ∨ k = 1 ∨ k = 2 ∨ k = 3 ∨ k = 4 ∨ k = 5 ∨ k = 6 by omega) with rfl | rfl | rfl | rfl | rfl | rfl | rfl <;> simp [noseS]
theorem or_0 (x : Int32) : x ||| 0 = x := by simp
theorem m_smells (A : Nat → Nat → Int32) (r : Nat → Int32) {b : Nat} (hb : b < 8) (ok : okB (A 1) b) : rv_EV 131 [.ref 0, .int (nI b)] (mM A r) = some (some (.int (smlS (A 1) b 4)), mM A r) := by
  have hn := m_nose A r hb ok
  obtain ⟨⟨k1, k2⟩, ⟨t1, t2⟩, ⟨o1, o2⟩, ⟨n1, n2⟩⟩ := ok
  have st : ∀ (c : Nat), c < 4 → rv_GO rc_X5_smells 19 [some (.ref 0), some (.int (nI b)), some (.int (nI (tbS (A 1) b))), some (.int (allS (A 1) (tbS (A 1) b))), some (.int (smlS (A 1) b c)), some (.int (nI c)), none] [] (mM A r) = rv_GO rc_X5_smells 19 [some (.ref 0), some (.int (nI b)), some (.int (nI (tbS (A 1) b))), some (.int (allS (A 1) (tbS (A 1) b))), some (.int (smlS (A 1) b (c + 1))), some (.int (nI (c + 1))), none] [] (mM A r) := by
    intro c hc
    rw [bk_X5_smells_19]
    simp only [cb_eq, cb_ne, cb_lt, cb_ge, cb_gt, cb_le, cb_q, cb_qL, ri_s, rl_s, rr_s, rv_s, Option.bind_some, i10, cond_true, cond_false, lfM0, lfM1, lfM2, lfM3, lfM5, lfM6, lfM8, lfM9, lfM10, lgM4, sgM4, lgM7, sgM7, lgM11, sgM11, lgM12, sgM12, lgM13, sgM13, lgM14, sgM14, lgM15, sgM15, m_placeOf, ldM1 A r (show 14 + 4 * tbS (A 1) b + c < 96 by omega), m_its2 A r hb, o1, hn, nI_1, show ¬ (4 : Int32) ≤ nI c from nI_ge (a := c) (b := 4) hc (by decide), if_false, nI_eq (show c < 2 ^ 31 by omega) (show owS (A 1) b < 2 ^ 31 by omega), d8_0, or_0]
    rw [smlS]
    by_cases h1 : c = owS (A 1) b
    · rw [if_pos h1, if_neg (fun q => q.1 h1), or_0]
    · rw [if_neg h1]
      by_cases h2 : A 1 (14 + 4 * tbS (A 1) b + c) < noseS (kdS (A 1) b) + (allS (A 1) (tbS (A 1) b) - A 1 (14 + 4 * tbS (A 1) b + c)) / 8
      · rw [if_pos h2, if_neg (fun q => absurd h2 (Int32.not_lt.mpr q.2)), or_0]
      · rw [if_neg h2, if_pos ⟨h1, Int32.not_lt.mp h2⟩]
  rw [ev_X5_smells _ _ _ (obM A r), m_its1 A r hb, t1]
  simp only [cb_eq, cb_ne, cb_lt, cb_ge, cb_gt, cb_le, cb_q, cb_qL, ri_s, rl_s, rr_s, rv_s, Option.bind_some, i10, cond_true, cond_false, m_allIn A r t2]
  have s0 := st 0 (by decide)
  rw [show smlS (A 1) b 0 = 0 from rfl, nI_0] at s0
  rw [s0, st 1 (by decide), st 2 (by decide), st 3 (by decide), bk_X5_smells_19]
  simp only [cb_eq, cb_ne, cb_lt, cb_ge, cb_gt, cb_le, cb_q, cb_qL, ri_s, rl_s, rr_s, rv_s, Option.bind_some, i10, cond_true, cond_false, show (4 : Int32) ≤ nI (3 + 1) from by decide, if_true]
end
section
/-! THE REFERENCE, an hour -/
def mR (A : Nat → Nat → Int32) (s : Nat → Int32) (r : Nat → Int32) : rv_W := mM (upA A 1 s) r
theorem upA_upA (A : Nat → Nat → Int32) (p : Nat) (g h : Nat → Int32) : upA (upA A p g) p h = upA A p h := by
  funext q; by_cases e : q = p <;> simp [upA, e]
theorem upA_self (A : Nat → Nat → Int32) (p : Nat) : upA A p (A p) = A := by
  funext q; by_cases e : q = p <;> simp [upA, e]
theorem mR_self (A : Nat → Nat → Int32) (r : Nat → Int32) : mR A (A 1) r = mM A r := by unfold mR; rw [upA_self]
theorem mR_congr (A : Nat → Nat → Int32) (r : Nat → Int32) {s q : Nat → Int32} (h : ∀ j, j < 96 → s j = q j) : mR A s r = mR A q r :=
  mM_congr r h (fun _ _ => rfl) (fun _ _ => rfl) (fun _ _ => rfl) (fun _ _ => rfl) (fun _ _ => rfl) (fun _ _ => rfl) (fun _ _ => rfl) (fun _ _ => rfl)
theorem ldR (A : Nat → Nat → Int32) (s r : Nat → Int32) {j : Nat} (h : j < 96) : rv_ldI (mR A s r) 1 (nI j) = some (s j) := ldM1 (upA A 1 s) r h
theorem stR (A : Nat → Nat → Int32) (s r : Nat → Int32) {j : Nat} (h : j < 96) (x : Int32) : rv_stI (mR A s r) 1 (nI j) x = some (mR A (upd s j x) r) := by
  have e := stM1 (upA A 1 s) r h x
  unfold mR
  rw [e]
  unfold upB
  rw [upA_upA]
  rfl
theorem ldR0 (A : Nat → Nat → Int32) (s r : Nat → Int32) : rv_ldI (mR A s r) 1 0 = some (s 0) := ldR A s r (j := 0) (by decide)
theorem ldR1 (A : Nat → Nat → Int32) (s r : Nat → Int32) : rv_ldI (mR A s r) 1 1 = some (s 1) := ldR A s r (j := 1) (by decide)
theorem ldR2 (A : Nat → Nat → Int32) (s r : Nat → Int32) : rv_ldI (mR A s r) 1 2 = some (s 2) := ldR A s r (j := 2) (by decide)
theorem lfR (A : Nat → Nat → Int32) (s r : Nat → Int32) : rv_ldFR (mR A s r) 0 4 0 = some 1 := rfl
theorem obR (A : Nat → Nat → Int32) (s r : Nat → Int32) : (rv_obj (mR A s r) 0 4).isSome = true := rfl
theorem r_its0 (A : Nat → Nat → Int32) (s r : Nat → Int32) {b : Nat} (hb : b < 8) : rv_EV 114 [.ref 0, .int (nI b), .int 0] (mR A s r) = some (some (.int (s (54 + 4 * b + 0))), mR A s r) := m_its0 (upA A 1 s) r hb
theorem r_its1 (A : Nat → Nat → Int32) (s r : Nat → Int32) {b : Nat} (hb : b < 8) : rv_EV 114 [.ref 0, .int (nI b), .int 1] (mR A s r) = some (some (.int (s (54 + 4 * b + 1))), mR A s r) := m_its1 (upA A 1 s) r hb
theorem r_its2 (A : Nat → Nat → Int32) (s r : Nat → Int32) {b : Nat} (hb : b < 8) : rv_EV 114 [.ref 0, .int (nI b), .int 2] (mR A s r) = some (some (.int (s (54 + 4 * b + 2))), mR A s r) := m_its2 (upA A 1 s) r hb
theorem r_its3 (A : Nat → Nat → Int32) (s r : Nat → Int32) {b : Nat} (hb : b < 8) : rv_EV 114 [.ref 0, .int (nI b), .int 3] (mR A s r) = some (some (.int (s (54 + 4 * b + 3))), mR A s r) := m_its3 (upA A 1 s) r hb
theorem r_adds (A : Nat → Nat → Int32) (s r : Nat → Int32) {b : Nat} (hb : b < 8) (ok : okB s b) : rv_EV 128 [.ref 0, .int (nI b)] (mR A s r) = some (some (.int (addS s b)), mR A s r) := m_adds (upA A 1 s) r hb ok
theorem r_cools (A : Nat → Nat → Int32) (s r : Nat → Int32) {b : Nat} (hb : b < 8) (ok : okB s b) : rv_EV 129 [.ref 0, .int (nI b)] (mR A s r) = some (some (.int (coolS (kdS s b))), mR A s r) := m_cools (upA A 1 s) r hb ok
theorem r_smells (A : Nat → Nat → Int32) (s r : Nat → Int32) {b : Nat} (hb : b < 8) (ok : okB s b) : rv_EV 131 [.ref 0, .int (nI b)] (mR A s r) = some (some (.int (smlS s b 4)), mR A s r) := m_smells (upA A 1 s) r hb ok
/-! water -/
def innS (q : Nat → Int32) (t c : Nat) : Nat → Int32 := fun i => if 14 + 4 * t + c ≤ i ∧ i < 18 + 4 * t then q (i - 4) * 3 / 4 else q i
def outS (q : Nat → Int32) (t : Nat) : Nat → Int32 := fun i => if 4 < i ∧ i ≤ 4 + t then (if q (i - 1) - 4 < 0 then 0 else q (i - 1) - 4) else if 18 ≤ i ∧ i < 18 + 4 * t then q (i - 4) * 3 / 4 else q i
theorem m_inn (A : Nat → Nat → Int32) (r : Nat → Int32) {t : Nat} (ht0 : 0 < t) (ht : t < 10) : ∀ (d c : Nat) (q : Nat → Int32), c + d = 4 → rv_GO rc_X5_flows 39 [some (.ref 0), some (.int (nI t)), none, some (.int (nI c))] [] (mR A q r) = rv_GO rc_X5_flows 3 [some (.ref 0), some (.int (nI (t - 1))), none, none] [] (mR A (innS q t c) r) := by
  intro d
  induction d with
  | zero =>
    intro c q hc
    have hc : c = 4 := by omega
    subst hc
    rw [bk_X5_flows_39]
    simp only [cb_eq, cb_ne, cb_lt, cb_ge, cb_gt, cb_le, cb_q, cb_qL, ri_s, rl_s, rr_s, rv_s, Option.bind_some, i10, cond_true, cond_false, show (4 : Int32) ≤ nI 4 from by decide, if_true]
    have e1 : nI t + (-1) = nI (t - 1) := by
      have := pk_m1 (t - 1)
      rwa [show t - 1 + 1 = t by omega] at this
    rw [e1]
    refine congrArg _ (mR_congr A r fun j _ => ?_)
    simp only [innS]
    grind
  | succ d ih =>
    intro c q hc
    have hc4 : c < 4 := by omega
    rw [bk_X5_flows_39]
    have e1 : nI t - 1 = nI (t - 1) := pk_sub (b := 1) (by omega)
    simp only [cb_eq, cb_ne, cb_lt, cb_ge, cb_gt, cb_le, cb_q, cb_qL, ri_s, rl_s, rr_s, rv_s, Option.bind_some, i10, cond_true, cond_false, lfR, m_placeOf, e1, show ¬ (4 : Int32) ≤ nI c from nI_ge (a := c) (b := 4) hc4 (by decide), if_false, ldR A q r (show 14 + 4 * (t - 1) + c < 96 by omega), stR A q r (show 14 + 4 * t + c < 96 by omega), d4_0, nI_1]
    rw [ih (c + 1) _ (by omega)]
    refine congrArg _ (mR_congr A r fun j _ => ?_)
    simp only [innS, upd]
    grind
theorem m_out (A : Nat → Nat → Int32) (r : Nat → Int32) : ∀ (t : Nat) (q : Nat → Int32), t < 10 → rv_GO rc_X5_flows 3 [some (.ref 0), some (.int (nI t)), none, none] [] (mR A q r) = rv_GO rc_X5_flows 96 [some (.ref 0), some (.int 0), none, none] [] (mR A (upd (outS q t) 4 (q 2)) r) := by
  intro t
  induction t with
  | zero =>
    intro q ht
    rw [bk_X5_flows_3]
    simp only [cb_eq, cb_ne, cb_lt, cb_ge, cb_gt, cb_le, cb_q, cb_qL, ri_s, rl_s, rr_s, rv_s, Option.bind_some, i10, cond_true, cond_false, lfR, show nI 0 ≤ 0 from by decide, if_true, ldR2, show (4 : Int32) = nI 4 from rfl, stR A q r (show 4 < 96 by decide)]
    refine congrArg _ (mR_congr A r fun j _ => ?_)
    simp only [outS, upd]
    grind
  | succ t ih =>
    intro q ht
    have body : rv_GO rc_X5_flows 3 [some (.ref 0), some (.int (nI (t + 1))), none, none] [] (mR A q r) = rv_GO rc_X5_flows 39 [some (.ref 0), some (.int (nI (t + 1))), none, some (.int (nI 0))] [] (mR A (upd q (4 + (t + 1)) (if q (4 + t) - 4 < 0 then 0 else q (4 + t) - 4)) r) := by
      rw [bk_X5_flows_3]
      have e1 : nI (4 + (t + 1)) - 1 = nI (4 + t) := by rw [show 4 + (t + 1) = (4 + t) + 1 by omega]; exact nI_pred (4 + t)
      simp only [cb_eq, cb_ne, cb_lt, cb_ge, cb_gt, cb_le, cb_q, cb_qL, ri_s, rl_s, rr_s, rv_s, Option.bind_some, i10, cond_true, cond_false, lfR, c4_, e1, nI_nle (show 0 < t + 1 by omega) (show t + 1 < 2 ^ 31 by omega), if_false, ldR A q r (show 4 + t < 96 by omega), stR A q r (show 4 + (t + 1) < 96 by omega)]
      by_cases h : 0 ≤ q (4 + t) - 4
      · rw [if_pos h, if_neg (Int32.not_lt.mpr h)]
        rfl
      · rw [if_neg h, if_pos (Int32.not_le.mp h)]
        rfl
    rw [body, m_inn A r (by omega) ht 4 0 _ rfl, show t + 1 - 1 = t by omega, ih _ (by omega)]
    refine congrArg _ (mR_congr A r fun j _ => ?_)
    simp only [outS, innS, upd]
    grind
theorem m_flows (A : Nat → Nat → Int32) (s r : Nat → Int32) : rv_EV 137 [.ref 0] (mR A s r) = some (none, mR A (flwS s) r) := by
  rw [ev_X5_flows _ _ (obR A s r)]
  have h9 := m_out A r 9 s (by decide)
  rw [show nI 9 = 9 from rfl] at h9
  rw [h9]
  have st : ∀ (c : Nat) (q : Nat → Int32), c < 4 → rv_GO rc_X5_flows 96 [some (.ref 0), some (.int (nI c)), none, none] [] (mR A q r) = rv_GO rc_X5_flows 96 [some (.ref 0), some (.int (nI (c + 1))), none, none] [] (mR A (upd q (14 + c) 0) r) := by
    intro c q hc
    rw [bk_X5_flows_96]
    have e := m_placeOf 0 c (mR A q r)
    rw [nI_0, show 14 + 4 * 0 + c = 14 + c by omega] at e
    simp only [cb_eq, cb_ne, cb_lt, cb_ge, cb_gt, cb_le, cb_q, cb_qL, ri_s, rl_s, rr_s, rv_s, Option.bind_some, i10, cond_true, cond_false, lfR, e, show ¬ (4 : Int32) ≤ nI c from nI_ge (a := c) (b := 4) hc (by decide), if_false, stR A q r (show 14 + c < 96 by omega), nI_1]
  have s0 := st 0 (upd (outS s 9) 4 (s 2)) (by decide)
  rw [nI_0] at s0
  rw [s0, st 1 _ (by decide), st 2 _ (by decide), st 3 _ (by decide), bk_X5_flows_96]
  simp only [cb_eq, cb_ne, cb_lt, cb_ge, cb_gt, cb_le, cb_q, cb_qL, ri_s, rl_s, rr_s, rv_s, Option.bind_some, i10, cond_true, cond_false, show (4 : Int32) ≤ nI (3 + 1) from by decide, if_true]
  refine congrArg (fun w => some (none, w)) (mR_congr A r fun j _ => ?_)
  simp only [flwS, outS, upd]
  grind
end
section
/-! THE REFERENCE, an hour: bathers -/
theorem okB_congr {s q : Nat → Int32} {b : Nat} (h : ∀ i, 54 + 4 * b ≤ i → i < 58 + 4 * b → q i = s i) : (okB s b → okB q b) ∧ kdS q b = kdS s b ∧ tbS q b = tbS s b ∧ owS q b = owS s b ∧ knS q b = knS s b := by
  have h0 := h (54 + 4 * b + 0) (by omega) (by omega)
  have h1 := h (54 + 4 * b + 1) (by omega) (by omega)
  have h2 := h (54 + 4 * b + 2) (by omega) (by omega)
  have h3 := h (54 + 4 * b + 3) (by omega) (by omega)
  have e0 : kdS q b = kdS s b := by unfold kdS; rw [h0]
  have e1 : tbS q b = tbS s b := by unfold tbS; rw [h1]
  have e2 : owS q b = owS s b := by unfold owS; rw [h2]
  have e3 : knS q b = knS s b := by unfold knS; rw [h3]
  refine ⟨fun ok => ?_, e0, e1, e2, e3⟩
  unfold okB at ok ⊢
  rw [h0, h1, h2, h3, e0, e1, e2, e3]
  exact ok
def okN (s : Nat → Int32) (n : Nat) : Prop := ∀ b, b < n → okB s b
theorem batS_out {s : Nat → Int32} {b : Nat} (ok : okB s b) {i : Nat} (hi : i < 4 ∨ 54 ≤ i) : batS s b i = s i := by
  obtain ⟨-, ⟨-, t2⟩, ⟨-, o2⟩, -⟩ := ok
  unfold batS coldS upd
  rw [if_neg (by omega), if_neg (by omega)]
theorem batsS_out {gone : Int32} {s : Nat → Int32} : ∀ (n : Nat), okN s n → ∀ i, (i < 4 ∨ 54 ≤ i) → batsS gone s n i = s i
  | 0, _, i, _ => rfl
  | n + 1, ok, i, hi => by
    have ih := batsS_out (gone := gone) (s := s) n (fun b hb => ok b (by omega))
    have okn : okB (batsS gone s n) n := (okB_congr (fun i h1 _ => ih i (by omega))).1 (ok n (by omega))
    rw [batsS]
    split
    · rw [batS_out okn hi]; exact ih i hi
    · exact ih i hi
theorem coldS_out {s : Nat → Int32} {b : Nat} (ok : okB s b) {i : Nat} (hi : 14 ≤ i) : coldS s b i = s i := by
  obtain ⟨-, ⟨-, t2⟩, -⟩ := ok
  unfold coldS upd
  rw [if_neg (by omega)]
theorem ge0_8 {n : Nat} (hn : n ≤ 8) {b : Nat} (hb : b < n) : ¬ nI n ≤ nI b := nI_ge hb (by omega)
theorem m_bat (A : Nat → Nat → Int32) (r : Nat → Int32) (gone : Int32) (s : Nat → Int32) {n b : Nat} (hn : n ≤ 8) (hs : s 0 = nI n) (hb : b < n) (ok : okB s b) :
    rv_GO rc_X5_hourBut 6 [some (.ref 0), some (.int gone), some (.int (nI b)), none, none, none] [] (mR A s r) = rv_GO rc_X5_hourBut 6 [some (.ref 0), some (.int gone), some (.int (nI (b + 1))), none, none, none] [] (mR A (if (gone >>> (nI b &&& 31)) &&& 1 = 0 then batS s b else s) r) := by
  have hb8 : b < 8 := by omega
  have okc : okB (coldS s b) b := (okB_congr (fun i h1 _ => coldS_out ok (by omega))).1 ok
  have ec := okB_congr (s := s) (q := coldS s b) (b := b) (fun i h1 _ => coldS_out ok (by omega))
  have hcl := r_cools A s r hb8 ok
  have hadd := r_adds A (coldS s b) r hb8 okc
  have c1 := r_its1 A (coldS s b) r hb8
  have c2 := r_its2 A (coldS s b) r hb8
  obtain ⟨⟨k1, k2⟩, ⟨t1, t2⟩, ⟨o1, o2⟩, ⟨n1, n2⟩⟩ := ok
  obtain ⟨⟨k1c, k2c⟩, ⟨t1c, t2c⟩, ⟨o1c, o2c⟩, ⟨n1c, n2c⟩⟩ := okc
  rw [t1c, ec.2.2.1] at c1
  rw [o1c, ec.2.2.2.1] at c2
  rw [bk_X5_hourBut_6]
  simp only [cb_eq, cb_ne, cb_lt, cb_ge, cb_gt, cb_le, cb_q, cb_qL, ri_s, rl_s, rr_s, rv_s, Option.bind_some, i10, cond_true, cond_false, lfR, ldR0, hs, ge0_8 hn hb, if_false, nI_1]
  by_cases hg : (gone >>> (nI b &&& 31)) &&& 1 = 0
  · rw [if_pos hg, if_pos hg]
    have tail : rv_GO rc_X5_hourBut 68 [some (.ref 0), some (.int gone), some (.int (nI b)), none, none, none] [.int (if s (4 + tbS s b) < coolS (kdS s b) then 0 else s (4 + tbS s b) - coolS (kdS s b)), .int (nI (4 + tbS s b)), .ref 1] (mR A s r) = rv_GO rc_X5_hourBut 6 [some (.ref 0), some (.int gone), some (.int (nI (b + 1))), none, none, none] [] (mR A (batS s b) r) := by
      rw [bk_X5_hourBut_68]
      simp only [cb_eq, cb_ne, cb_lt, cb_ge, cb_gt, cb_le, cb_q, cb_qL, ri_s, rl_s, rr_s, rv_s, Option.bind_some, i10, cond_true, cond_false, lfR, stR A s r (show 4 + tbS s b < 96 by omega)]
      rw [show upd s (4 + tbS s b) (if s (4 + tbS s b) < coolS (kdS s b) then 0 else s (4 + tbS s b) - coolS (kdS s b)) = coldS s b from rfl]
      simp only [c1, c2, cb_eq, cb_ne, cb_lt, cb_ge, cb_gt, cb_le, cb_q, cb_qL, ri_s, rl_s, rr_s, rv_s, Option.bind_some, i10, cond_true, cond_false, lfR, m_placeOf, ldR A (coldS s b) r (show 14 + 4 * tbS s b + owS s b < 96 by omega), hadd, stR A (coldS s b) r (show 14 + 4 * tbS s b + owS s b < 96 by omega), nI_1]
      unfold batS
      by_cases hm : 9999 < coldS s b (14 + 4 * tbS s b + owS s b) + addS (coldS s b) b
      · rw [if_neg (Int32.not_le.mpr hm), if_pos hm]
      · rw [if_pos (Int32.not_lt.mp hm), if_neg hm]
    simp only [r_its1 A s r hb8, t1, cb_eq, cb_ne, cb_lt, cb_ge, cb_gt, cb_le, cb_q, cb_qL, ri_s, rl_s, rr_s, rv_s, Option.bind_some, i10, cond_true, cond_false, lfR, c4_, ldR A s r (show 4 + tbS s b < 96 by omega), hcl]
    rw [← tail]
    by_cases hc : s (4 + tbS s b) < coolS (kdS s b)
    · rw [if_neg (Int32.not_le.mpr hc), if_pos hc]
    · rw [if_pos (Int32.not_lt.mp hc), if_neg hc]
  · rw [if_neg hg, if_neg hg]
theorem m_bats (A : Nat → Nat → Int32) (r : Nat → Int32) (gone : Int32) (s : Nat → Int32) {n : Nat} (hn : n ≤ 8) (hs : s 0 = nI n) (ok : okN s n) : ∀ b, b ≤ n →
    rv_GO rc_X5_hourBut 6 [some (.ref 0), some (.int gone), some (.int 0), none, none, none] [] (mR A s r) = rv_GO rc_X5_hourBut 6 [some (.ref 0), some (.int gone), some (.int (nI b)), none, none, none] [] (mR A (batsS gone s b) r) := by
  intro b
  induction b with
  | zero => intro _; rfl
  | succ b ih =>
    intro hb
    have ho := batsS_out (gone := gone) (s := s) b (fun c hc => ok c (by omega))
    rw [ih (by omega), m_bat A r gone (batsS gone s b) hn (by rw [ho 0 (by omega)]; exact hs) (by omega) ((okB_congr (fun i h1 _ => ho i (by omega))).1 (ok b (by omega)))]
    rfl
/-- who comes to know what, by bits -/
def moreS (s : Nat → Int32) (b : Nat) : Int32 := smlS s b 4 &&& (s (54 + 4 * b + 3) ^^^ (-1))
def comS (gone : Int32) (s : Nat → Int32) : Nat → Int64
  | 0 => Int32.toInt64 0
  | b + 1 => if (gone >>> (nI b &&& 31)) &&& 1 = 0 then comS gone s b ||| ((moreS (knoS gone s b) b).toInt64 <<< (Int32.toInt64 (4 * nI b) &&& 63)) else comS gone s b
theorem or_more (x y : Int32) : x ||| (y &&& (x ^^^ (-1))) = x ||| y := by
  apply Int32.toBitVec_inj.mp
  simp only [Int32.toBitVec_or, Int32.toBitVec_and, Int32.toBitVec_xor]
  apply BitVec.eq_of_getLsbD_eq
  intro i hi
  have h1 : (Int32.toBitVec (-1)).getLsbD i = true := by
    rw [show Int32.toBitVec (-1) = BitVec.allOnes 32 from rfl, BitVec.getLsbD_allOnes]
    exact decide_eq_true hi
  simp only [BitVec.getLsbD_or, BitVec.getLsbD_and, BitVec.getLsbD_xor, h1]
  cases x.toBitVec.getLsbD i <;> cases y.toBitVec.getLsbD i <;> rfl
theorem knoS_out {gone : Int32} {s : Nat → Int32} : ∀ (n i : Nat), (∀ b, b < n → ¬ i = 54 + 4 * b + 3) → knoS gone s n i = s i
  | 0, i, _ => rfl
  | n + 1, i, h => by
    have ih := knoS_out (gone := gone) (s := s) n i (fun b hb => h b (by omega))
    rw [knoS]
    split
    · unfold upd
      rw [if_neg (h n (by omega))]
      exact ih
    · exact ih
theorem m_kno (A : Nat → Nat → Int32) (r : Nat → Int32) (gone : Int32) (s : Nat → Int32) (v : Int64) {n b : Nat} (hn : n ≤ 8) (hs : s 0 = nI n) (hb : b < n) (ok : okB s b) :
    rv_GO rc_X5_hourBut 135 [some (.ref 0), some (.int gone), some (.long v), none, some (.int (nI b)), none] [] (mR A s r) = rv_GO rc_X5_hourBut 135 [some (.ref 0), some (.int gone), some (.long (if (gone >>> (nI b &&& 31)) &&& 1 = 0 then v ||| ((moreS s b).toInt64 <<< (Int32.toInt64 (4 * nI b) &&& 63)) else v)), none, some (.int (nI (b + 1))), none] [] (mR A (if (gone >>> (nI b &&& 31)) &&& 1 = 0 then upd s (54 + 4 * b + 3) (s (54 + 4 * b + 3) ||| smlS s b 4) else s) r) := by
  have hb8 : b < 8 := by omega
  have hsm := r_smells A s r hb8 ok
  have e3 : (54 + (4 * nI b)) + 3 = nI (54 + 4 * b + 3) := c54_ b 3
  rw [bk_X5_hourBut_135]
  simp only [cb_eq, cb_ne, cb_lt, cb_ge, cb_gt, cb_le, cb_q, cb_qL, ri_s, rl_s, rr_s, rv_s, Option.bind_some, i10, cond_true, cond_false, lfR, ldR0, hs, ge0_8 hn hb, if_false, nI_1]
  by_cases hg : (gone >>> (nI b &&& 31)) &&& 1 = 0
  · simp only [hg, if_true, hsm, cb_eq, cb_ne, cb_lt, cb_ge, cb_gt, cb_le, cb_q, cb_qL, ri_s, rl_s, rr_s, rv_s, Option.bind_some, i10, cond_true, cond_false, r_its3 A s r hb8, lfR, e3, ldR A s r (show 54 + 4 * b + 3 < 96 by omega), stR A s r (show 54 + 4 * b + 3 < 96 by omega), or_more]
    rfl
  · simp only [hg, if_false]
theorem m_knos (A : Nat → Nat → Int32) (r : Nat → Int32) (gone : Int32) (s : Nat → Int32) {n : Nat} (hn : n ≤ 8) (hs : s 0 = nI n) (ok : ∀ b, b < n → okB (knoS gone s b) b) : ∀ b, b ≤ n →
    rv_GO rc_X5_hourBut 135 [some (.ref 0), some (.int gone), some (.long (Int32.toInt64 0)), none, some (.int 0), none] [] (mR A s r) = rv_GO rc_X5_hourBut 135 [some (.ref 0), some (.int gone), some (.long (comS gone s b)), none, some (.int (nI b)), none] [] (mR A (knoS gone s b) r) := by
  intro b
  induction b with
  | zero => intro _; rfl
  | succ b ih =>
    intro hb
    rw [ih (by omega), m_kno A r gone (knoS gone s b) (comS gone s b) hn (by rw [knoS_out b 0 (fun _ _ => by omega)]; exact hs) (by omega) (ok b (by omega))]
    rfl
theorem knoS_ok {gone : Int32} {s : Nat → Int32} {b : Nat} (ok : okB s b) : okB (knoS gone s b) b :=
  (okB_congr (fun i h1 h2 => knoS_out b i (fun c hc => by omega))).1 ok
theorem m_hourBut (A : Nat → Nat → Int32) (s r : Nat → Int32) (gone : Int32) {n : Nat} (hn : n ≤ 8) (hs : s 0 = nI n) (ok : okN s n) :
    rv_EV 138 [.ref 0, .int gone] (mR A s r) = some (some (.long (comS gone (batsS gone (flwS s) n) n)), mR A (hourS gone s) r) := by
  have hf : ∀ i, (i < 4 ∨ 54 ≤ i) → flwS s i = s i := by
    intro i hi
    unfold flwS
    rw [if_neg (by omega), if_neg (by omega), if_neg (by omega), if_neg (by omega)]
  have okf : okN (flwS s) n := fun b hb => (okB_congr (fun i h1 _ => hf i (by omega))).1 (ok b hb)
  have hb := batsS_out (gone := gone) (s := flwS s) n okf
  have okb : okN (batsS gone (flwS s) n) n := fun b hb' => (okB_congr (fun i h1 _ => hb i (by omega))).1 (okf b hb')
  have hs1 : flwS s 0 = nI n := by rw [hf 0 (by omega)]; exact hs
  have hs2 : batsS gone (flwS s) n 0 = nI n := by rw [hb 0 (by omega)]; exact hs1
  have hs3 : knoS gone (batsS gone (flwS s) n) n 0 = nI n := by rw [knoS_out n 0 (fun _ _ => by omega)]; exact hs2
  have hs4 : knoS gone (batsS gone (flwS s) n) n 1 = s 1 := by rw [knoS_out n 1 (fun _ _ => by omega), hb 1 (by omega), hf 1 (by omega)]
  have hc : (s 0).toNatClampNeg = n := by rw [hs]; exact nI_clamp (by omega)
  rw [ev_X5_hourBut _ _ _ (obR A s r), m_flows]
  simp only [cb_eq, cb_ne, cb_lt, cb_ge, cb_gt, cb_le, cb_q, cb_qL, ri_s, rl_s, rr_s, rv_s, Option.bind_some, i10, cond_true, cond_false]
  rw [m_bats A r gone (flwS s) hn hs1 okf n (Nat.le_refl n), bk_X5_hourBut_6]
  simp only [cb_eq, cb_ne, cb_lt, cb_ge, cb_gt, cb_le, cb_q, cb_qL, ri_s, rl_s, rr_s, rv_s, Option.bind_some, i10, cond_true, cond_false, lfR, ldR0, hs2, Int32.le_refl, if_true]
  rw [m_knos A r gone (batsS gone (flwS s) n) hn hs2 (fun b hb' => knoS_ok (okb b hb')) n (Nat.le_refl n), bk_X5_hourBut_135]
  have e1 := stR A (knoS gone (batsS gone (flwS s) n) n) r (j := 1) (by decide) (s 1 + 1)
  rw [show nI 1 = 1 from rfl] at e1
  simp only [cb_eq, cb_ne, cb_lt, cb_ge, cb_gt, cb_le, cb_q, cb_qL, ri_s, rl_s, rr_s, rv_s, Option.bind_some, i10, cond_true, cond_false, lfR, ldR0, hs3, Int32.le_refl, if_true, ldR1, hs4, e1]
  unfold hourS
  rw [hc]
theorem sml_nI_b : ∀ a b c d : Bool, ∃ m : Fin 16, (((((0 : Int32) ||| (if a then 1 <<< (nI 0 &&& 31) else 0)) ||| (if b then 1 <<< (nI 1 &&& 31) else 0)) ||| (if c then 1 <<< (nI 2 &&& 31) else 0)) ||| (if d then 1 <<< (nI 3 &&& 31) else 0)) = nI m.val := by decide +kernel
theorem ite_b (p : Prop) [Decidable p] (x y : Int32) : (if p then x else y) = (if decide p then x else y) := by by_cases h : p <;> simp [h]
theorem sml_nI (s : Nat → Int32) (b : Nat) : ∃ m, m < 16 ∧ smlS s b 4 = nI m := by
  simp only [smlS]
  rw [ite_b, ite_b (_ ∧ _) (1 <<< (nI 1 &&& 31)), ite_b (_ ∧ _) (1 <<< (nI 2 &&& 31)), ite_b (_ ∧ _) (1 <<< (nI 3 &&& 31))]
  obtain ⟨m, hm⟩ := sml_nI_b _ _ _ _
  exact ⟨m.val, m.isLt, hm⟩
theorem or_nI_b : ∀ a b : Fin 16, ∃ m : Fin 16, nI a.val ||| nI b.val = nI m.val := by decide +kernel
theorem or_nI {a b : Nat} (ha : a < 16) (hb : b < 16) : ∃ m, m < 16 ∧ nI a ||| nI b = nI m := by
  obtain ⟨m, hm⟩ := or_nI_b ⟨a, ha⟩ ⟨b, hb⟩
  exact ⟨m.val, m.isLt, hm⟩
theorem knoS_at {gone : Int32} {s : Nat → Int32} {n b : Nat} (hb : b < n) : knoS gone s n (54 + 4 * b + 3) = knoS gone s (b + 1) (54 + 4 * b + 3) := by
  induction n with
  | zero => omega
  | succ n ih =>
    by_cases h : b = n
    · subst h; rfl
    · rw [knoS]
      split
      · unfold upd
        rw [if_neg (by omega)]
        exact ih (by omega)
      · exact ih (by omega)
theorem okB_kn {s q : Nat → Int32} {b : Nat} (ok : okB s b) (h : ∀ i, 54 + 4 * b ≤ i → i < 57 + 4 * b → q i = s i) {m : Nat} (hm : m < 16) (hq : q (54 + 4 * b + 3) = nI m) : okB q b := by
  obtain ⟨⟨k1, k2⟩, ⟨t1, t2⟩, ⟨o1, o2⟩, -⟩ := ok
  have h0 := h (54 + 4 * b + 0) (by omega) (by omega)
  have h1 := h (54 + 4 * b + 1) (by omega) (by omega)
  have h2 := h (54 + 4 * b + 2) (by omega) (by omega)
  have e0 : kdS q b = kdS s b := by unfold kdS; rw [h0]
  have e1 : tbS q b = tbS s b := by unfold tbS; rw [h1]
  have e2 : owS q b = owS s b := by unfold owS; rw [h2]
  have e3 : knS q b = m := by unfold knS; rw [hq]; exact nI_clamp (by omega)
  refine ⟨⟨by rw [h0, e0]; exact k1, by rw [e0]; exact k2⟩, ⟨by rw [h1, e1]; exact t1, by rw [e1]; exact t2⟩, ⟨by rw [h2, e2]; exact o1, by rw [e2]; exact o2⟩, by rw [hq, e3], by rw [e3]; exact hm⟩
theorem flwS_out (s : Nat → Int32) {i : Nat} (hi : i < 4 ∨ 54 ≤ i) : flwS s i = s i := by
  unfold flwS
  rw [if_neg (by omega), if_neg (by omega), if_neg (by omega), if_neg (by omega)]
/-- an hour leaves bathers, but for what they know -/
theorem hourS_out {gone : Int32} {s : Nat → Int32} {n : Nat} (hn : n ≤ 8) (hs : s 0 = nI n) (ok : okN s n) {i : Nat} (hi : i = 0 ∨ i = 2 ∨ i = 3 ∨ 54 ≤ i) (hk : ∀ b, b < n → ¬ i = 54 + 4 * b + 3) : hourS gone s i = s i := by
  have okf : okN (flwS s) n := fun b hb => (okB_congr (fun i h1 _ => flwS_out s (by omega))).1 (ok b hb)
  unfold hourS
  rw [show (s 0).toNatClampNeg = n by rw [hs]; exact nI_clamp (by omega)]
  unfold upd
  rw [if_neg (by omega), knoS_out n i hk, batsS_out n okf i (by omega), flwS_out s (by omega)]
theorem hourS_okN {gone : Int32} {s : Nat → Int32} {n : Nat} (hn : n ≤ 8) (hs : s 0 = nI n) (ok : okN s n) : okN (hourS gone s) n := by
  intro b hb
  have okf : okN (flwS s) n := fun b hb => (okB_congr (fun i h1 _ => flwS_out s (by omega))).1 (ok b hb)
  have hbo := batsS_out (gone := gone) (s := flwS s) n okf
  have okb : okB (batsS gone (flwS s) n) b := (okB_congr (fun i h1 _ => hbo i (by omega))).1 (okf b hb)
  have okk : okB (knoS gone (batsS gone (flwS s) n) b) b := knoS_ok okb
  have key : ∃ m, m < 16 ∧ hourS gone s (54 + 4 * b + 3) = nI m := by
    unfold hourS
    rw [show (s 0).toNatClampNeg = n by rw [hs]; exact nI_clamp (by omega)]
    unfold upd
    rw [if_neg (by omega), knoS_at hb, knoS]
    obtain ⟨-, -, -, n1, n2⟩ := okk
    split
    · obtain ⟨m, hm, he⟩ := sml_nI (knoS gone (batsS gone (flwS s) n) b) b
      unfold upd
      rw [if_pos rfl, he, n1]
      exact or_nI n2 hm
    · exact ⟨_, n2, n1⟩
  obtain ⟨m, hm, he⟩ := key
  exact okB_kn (ok b hb) (fun i h1 h2 => hourS_out hn hs ok (by omega) (fun c hc => by omega)) hm he
theorem hoursS_ok {gone : Int32} {s : Nat → Int32} {n : Nat} (hn : n ≤ 8) (hs : s 0 = nI n) (ok : okN s n) : ∀ k, okN (hoursS gone s k) n ∧ hoursS gone s k 0 = nI n
  | 0 => ⟨ok, hs⟩
  | k + 1 => by
    obtain ⟨h1, h2⟩ := hoursS_ok (gone := gone) hn hs ok k
    exact ⟨hourS_okN hn h2 h1, by rw [hoursS, hourS_out hn h2 h1 (Or.inl rfl) (fun _ _ => by omega)]; exact h2⟩
theorem m_hours (A : Nat → Nat → Int32) (s r : Nat → Int32) {n : Nat} (hn : n ≤ 8) (hs : s 0 = nI n) (ok : okN s n) {k : Nat} (hk : k < 2 ^ 31) : rv_EV 139 [.ref 0, .int (nI k)] (mR A s r) = some (none, mR A (hoursS 0 s k) r) := by
  have st : ∀ j, j ≤ k → rv_GO rc_X5_hours 2 [some (.ref 0), some (.int (nI k)), some (.int 0), none, none] [] (mR A s r) = rv_GO rc_X5_hours 2 [some (.ref 0), some (.int (nI k)), some (.int (nI j)), none, none] [] (mR A (hoursS 0 s j) r) := by
    intro j
    induction j with
    | zero => intro _; rfl
    | succ j ih =>
      intro hj
      obtain ⟨h1, h2⟩ := hoursS_ok (gone := 0) hn hs ok j
      rw [ih (by omega), bk_X5_hours_2]
      simp only [cb_eq, cb_ne, cb_lt, cb_ge, cb_gt, cb_le, cb_q, cb_qL, ri_s, rl_s, rr_s, rv_s, Option.bind_some, i10, cond_true, cond_false, nI_ge (show j < k by omega) hk, if_false, m_hourBut A (hoursS 0 s j) r 0 hn h2 h1, nI_1]
      rfl
  rw [ev_X5_hours _ _ _ (obR A s r), st k (Nat.le_refl k), bk_X5_hours_2]
  simp only [cb_eq, cb_ne, cb_lt, cb_ge, cb_gt, cb_le, cb_q, cb_qL, ri_s, rl_s, rr_s, rv_s, Option.bind_some, i10, cond_true, cond_false, Int32.le_refl, if_true]
end
section
/-! THE CLASS'S WORLD: three spas as rows S 0 (spa), S 1 (kept), S 2 (draft), index 96 is gone; F: all else -/
def spC (b : Nat) (s : Nat → Int32) : List rv_E := [.inr (1, [.ref (b + 1), .ref (b + 2), .ref (b + 3), .ref (b + 4), .ref (b + 5), .ref (b + 6), .ref (b + 7), .int (s 0), .int (s 2), .int (s 1), .int (s 3), .int (s 96)]), .inl (0, .inl (rv_tab 10 (fun k => s (4 + k)))), .inl (0, .inl (rv_tab 40 (fun k => s (14 + k)))), .inl (0, .inl (rv_tab 8 (fun k => s (54 + 4 * k + 0)))), .inl (0, .inl (rv_tab 8 (fun k => s (54 + 4 * k + 1)))), .inl (0, .inl (rv_tab 8 (fun k => s (54 + 4 * k + 2)))), .inl (0, .inl (rv_tab 8 (fun k => s (54 + 4 * k + 3)))), .inl (0, .inl (rv_tab 10 (fun k => s (86 + k))))]
def mC (S F : Nat → Nat → Int32) (rb : Nat) : rv_W := .inr (3, [.ref 1, .ref 9, .ref 17, .ref 25, .ref 34, .ref 35, .ref 37, .int (F 0 7), .int (F 0 8)]) :: (spC 1 (S 0) ++ (spC 9 (S 1) ++ (spC 17 (S 2) ++ [.inl (2, .inr [some 26, some 28, some 30, some 32]), .inr (0, [.ref 27, .int (F 26 1), .int (F 26 2)]), .inl (0, .inl (rv_tab 40 (F 27))), .inr (0, [.ref 29, .int (F 28 1), .int (F 28 2)]), .inl (0, .inl (rv_tab 40 (F 29))), .inr (0, [.ref 31, .int (F 30 1), .int (F 30 2)]), .inl (0, .inl (rv_tab 40 (F 31))), .inr (0, [.ref 33, .int (F 32 1), .int (F 32 2)]), .inl (0, .inl (rv_tab 40 (F 33))), .inl (1, .inl (rv_tab 120 (F 34))), .inr (2, [.ref rb, .int (F 35 1), .int (F 35 2), .int (F 35 3), .int (F 35 4), .int (F 35 5)]), .inl (1, .inl []), .inl (0, .inl (rv_tab 7 (F 37)))])))
def sp (j : Nat) : Nat := 1 + 8 * j
def sa (j k : Nat) : Nat := 1 + 8 * j + k
def sh (i : Nat) : Nat := 26 + 2 * i
def sn (i : Nat) : Nat := 27 + 2 * i
theorem lt3 {P : Nat → Prop} (h0 : P 0) (h1 : P 1) (h2 : P 2) {j : Nat} (hj : j < 3) : P j := by
  rcases (show j = 0 ∨ j = 1 ∨ j = 2 by omega) with rfl | rfl | rfl
  · exact h0
  · exact h1
  · exact h2
theorem lt4 {P : Nat → Prop} (h0 : P 0) (h1 : P 1) (h2 : P 2) (h3 : P 3) {j : Nat} (hj : j < 4) : P j := by
  rcases (show j = 0 ∨ j = 1 ∨ j = 2 ∨ j = 3 by omega) with rfl | rfl | rfl | rfl
  · exact h0
  · exact h1
  · exact h2
  · exact h3
theorem lfS1 (S F : Nat → Nat → Int32) (rb : Nat) {j : Nat} (hj : j < 3) : rv_ldFR (mC S F rb) (sp j) 1 0 = some (sa j 1) := lt3 (P := fun j => rv_ldFR (mC S F rb) (sp j) 1 0 = some (sa j 1)) rfl rfl rfl hj
theorem ldS1 (S F : Nat → Nat → Int32) (rb : Nat) {j : Nat} (hj : j < 3) {k : Nat} (h : k < 10) : rv_ldI (mC S F rb) (sa j 1) (nI k) = some (S j (4 + k)) := lt3 (P := fun j => rv_ldI (mC S F rb) (sa j 1) (nI k) = some (S j (4 + k))) (rv_ldI_tab (f := fun k => S 0 (4 + k)) (by decide) rfl (by decide) h) (rv_ldI_tab (f := fun k => S 1 (4 + k)) (by decide) rfl (by decide) h) (rv_ldI_tab (f := fun k => S 2 (4 + k)) (by decide) rfl (by decide) h) hj
theorem spC_u1 (b : Nat) (s : Nat → Int32) {k0 : Nat} (h : k0 < 10) (x : Int32) : spC b (upd s (4 + k0) x) = [.inr (1, [.ref (b + 1), .ref (b + 2), .ref (b + 3), .ref (b + 4), .ref (b + 5), .ref (b + 6), .ref (b + 7), .int (s 0), .int (s 2), .int (s 1), .int (s 3), .int (s 96)]), .inl (0, .inl (rv_tab 10 (upd (fun k => s (4 + k)) k0 x))), .inl (0, .inl (rv_tab 40 (fun k => s (14 + k)))), .inl (0, .inl (rv_tab 8 (fun k => s (54 + 4 * k + 0)))), .inl (0, .inl (rv_tab 8 (fun k => s (54 + 4 * k + 1)))), .inl (0, .inl (rv_tab 8 (fun k => s (54 + 4 * k + 2)))), .inl (0, .inl (rv_tab 8 (fun k => s (54 + 4 * k + 3)))), .inl (0, .inl (rv_tab 10 (fun k => s (86 + k))))] := by
  have f0 : upd s (4 + k0) x 0 = s 0 := by simp only [upd]; grind
  have f2 : upd s (4 + k0) x 2 = s 2 := by simp only [upd]; grind
  have f1 : upd s (4 + k0) x 1 = s 1 := by simp only [upd]; grind
  have f3 : upd s (4 + k0) x 3 = s 3 := by simp only [upd]; grind
  have f96 : upd s (4 + k0) x 96 = s 96 := by simp only [upd]; grind
  have a1 : rv_tab 10 (fun k => upd s (4 + k0) x (4 + k)) = rv_tab 10 (upd (fun k => s (4 + k)) k0 x) := rv_tab_congr (fun k hk => by simp only [upd]; grind)
  have a2 : rv_tab 40 (fun k => upd s (4 + k0) x (14 + k)) = rv_tab 40 (fun k => s (14 + k)) := rv_tab_congr (fun k hk => by simp only [upd]; grind)
  have a3 : rv_tab 8 (fun k => upd s (4 + k0) x (54 + 4 * k + 0)) = rv_tab 8 (fun k => s (54 + 4 * k + 0)) := rv_tab_congr (fun k hk => by simp only [upd]; grind)
  have a4 : rv_tab 8 (fun k => upd s (4 + k0) x (54 + 4 * k + 1)) = rv_tab 8 (fun k => s (54 + 4 * k + 1)) := rv_tab_congr (fun k hk => by simp only [upd]; grind)
  have a5 : rv_tab 8 (fun k => upd s (4 + k0) x (54 + 4 * k + 2)) = rv_tab 8 (fun k => s (54 + 4 * k + 2)) := rv_tab_congr (fun k hk => by simp only [upd]; grind)
  have a6 : rv_tab 8 (fun k => upd s (4 + k0) x (54 + 4 * k + 3)) = rv_tab 8 (fun k => s (54 + 4 * k + 3)) := rv_tab_congr (fun k hk => by simp only [upd]; grind)
  have a7 : rv_tab 10 (fun k => upd s (4 + k0) x (86 + k)) = rv_tab 10 (fun k => s (86 + k)) := rv_tab_congr (fun k hk => by simp only [upd]; grind)
  unfold spC
  rw [f0, f2, f1, f3, f96, a1, a2, a3, a4, a5, a6, a7]
theorem stS1 (S F : Nat → Nat → Int32) (rb : Nat) {j : Nat} (hj : j < 3) {k : Nat} (h : k < 10) (x : Int32) : rv_stI (mC S F rb) (sa j 1) (nI k) x = some (mC (upB S j (4 + k) x) F rb) := by
  refine lt3 (P := fun j => rv_stI (mC S F rb) (sa j 1) (nI k) x = some (mC (upB S j (4 + k) x) F rb)) ?_ ?_ ?_ hj
  · refine (rv_stI_tab (n := 10) (f := fun k => S 0 (4 + k)) rfl (by decide) h x).trans (congrArg some ?_)
    show _ = _ :: (spC 1 (upd (S 0) (4 + k) x) ++ (spC 9 (S 1) ++ (spC 17 (S 2) ++ _)))
    rw [spC_u1 1 (S 0) h x]
    rfl
  · refine (rv_stI_tab (n := 10) (f := fun k => S 1 (4 + k)) rfl (by decide) h x).trans (congrArg some ?_)
    show _ = _ :: (spC 1 (S 0) ++ (spC 9 (upd (S 1) (4 + k) x) ++ (spC 17 (S 2) ++ _)))
    rw [spC_u1 9 (S 1) h x]
    rfl
  · refine (rv_stI_tab (n := 10) (f := fun k => S 2 (4 + k)) rfl (by decide) h x).trans (congrArg some ?_)
    show _ = _ :: (spC 1 (S 0) ++ (spC 9 (S 1) ++ (spC 17 (upd (S 2) (4 + k) x) ++ _)))
    rw [spC_u1 17 (S 2) h x]
    rfl
theorem lfS2 (S F : Nat → Nat → Int32) (rb : Nat) {j : Nat} (hj : j < 3) : rv_ldFR (mC S F rb) (sp j) 1 1 = some (sa j 2) := lt3 (P := fun j => rv_ldFR (mC S F rb) (sp j) 1 1 = some (sa j 2)) rfl rfl rfl hj
theorem ldS2 (S F : Nat → Nat → Int32) (rb : Nat) {j : Nat} (hj : j < 3) {k : Nat} (h : k < 40) : rv_ldI (mC S F rb) (sa j 2) (nI k) = some (S j (14 + k)) := lt3 (P := fun j => rv_ldI (mC S F rb) (sa j 2) (nI k) = some (S j (14 + k))) (rv_ldI_tab (f := fun k => S 0 (14 + k)) (by decide) rfl (by decide) h) (rv_ldI_tab (f := fun k => S 1 (14 + k)) (by decide) rfl (by decide) h) (rv_ldI_tab (f := fun k => S 2 (14 + k)) (by decide) rfl (by decide) h) hj
theorem spC_u2 (b : Nat) (s : Nat → Int32) {k0 : Nat} (h : k0 < 40) (x : Int32) : spC b (upd s (14 + k0) x) = [.inr (1, [.ref (b + 1), .ref (b + 2), .ref (b + 3), .ref (b + 4), .ref (b + 5), .ref (b + 6), .ref (b + 7), .int (s 0), .int (s 2), .int (s 1), .int (s 3), .int (s 96)]), .inl (0, .inl (rv_tab 10 (fun k => s (4 + k)))), .inl (0, .inl (rv_tab 40 (upd (fun k => s (14 + k)) k0 x))), .inl (0, .inl (rv_tab 8 (fun k => s (54 + 4 * k + 0)))), .inl (0, .inl (rv_tab 8 (fun k => s (54 + 4 * k + 1)))), .inl (0, .inl (rv_tab 8 (fun k => s (54 + 4 * k + 2)))), .inl (0, .inl (rv_tab 8 (fun k => s (54 + 4 * k + 3)))), .inl (0, .inl (rv_tab 10 (fun k => s (86 + k))))] := by
  have f0 : upd s (14 + k0) x 0 = s 0 := by simp only [upd]; grind
  have f2 : upd s (14 + k0) x 2 = s 2 := by simp only [upd]; grind
  have f1 : upd s (14 + k0) x 1 = s 1 := by simp only [upd]; grind
  have f3 : upd s (14 + k0) x 3 = s 3 := by simp only [upd]; grind
  have f96 : upd s (14 + k0) x 96 = s 96 := by simp only [upd]; grind
  have a1 : rv_tab 10 (fun k => upd s (14 + k0) x (4 + k)) = rv_tab 10 (fun k => s (4 + k)) := rv_tab_congr (fun k hk => by simp only [upd]; grind)
  have a2 : rv_tab 40 (fun k => upd s (14 + k0) x (14 + k)) = rv_tab 40 (upd (fun k => s (14 + k)) k0 x) := rv_tab_congr (fun k hk => by simp only [upd]; grind)
  have a3 : rv_tab 8 (fun k => upd s (14 + k0) x (54 + 4 * k + 0)) = rv_tab 8 (fun k => s (54 + 4 * k + 0)) := rv_tab_congr (fun k hk => by simp only [upd]; grind)
  have a4 : rv_tab 8 (fun k => upd s (14 + k0) x (54 + 4 * k + 1)) = rv_tab 8 (fun k => s (54 + 4 * k + 1)) := rv_tab_congr (fun k hk => by simp only [upd]; grind)
  have a5 : rv_tab 8 (fun k => upd s (14 + k0) x (54 + 4 * k + 2)) = rv_tab 8 (fun k => s (54 + 4 * k + 2)) := rv_tab_congr (fun k hk => by simp only [upd]; grind)
  have a6 : rv_tab 8 (fun k => upd s (14 + k0) x (54 + 4 * k + 3)) = rv_tab 8 (fun k => s (54 + 4 * k + 3)) := rv_tab_congr (fun k hk => by simp only [upd]; grind)
  have a7 : rv_tab 10 (fun k => upd s (14 + k0) x (86 + k)) = rv_tab 10 (fun k => s (86 + k)) := rv_tab_congr (fun k hk => by simp only [upd]; grind)
  unfold spC
  rw [f0, f2, f1, f3, f96, a1, a2, a3, a4, a5, a6, a7]
theorem stS2 (S F : Nat → Nat → Int32) (rb : Nat) {j : Nat} (hj : j < 3) {k : Nat} (h : k < 40) (x : Int32) : rv_stI (mC S F rb) (sa j 2) (nI k) x = some (mC (upB S j (14 + k) x) F rb) := by
  refine lt3 (P := fun j => rv_stI (mC S F rb) (sa j 2) (nI k) x = some (mC (upB S j (14 + k) x) F rb)) ?_ ?_ ?_ hj
  · refine (rv_stI_tab (n := 40) (f := fun k => S 0 (14 + k)) rfl (by decide) h x).trans (congrArg some ?_)
    show _ = _ :: (spC 1 (upd (S 0) (14 + k) x) ++ (spC 9 (S 1) ++ (spC 17 (S 2) ++ _)))
    rw [spC_u2 1 (S 0) h x]
    rfl
  · refine (rv_stI_tab (n := 40) (f := fun k => S 1 (14 + k)) rfl (by decide) h x).trans (congrArg some ?_)
    show _ = _ :: (spC 1 (S 0) ++ (spC 9 (upd (S 1) (14 + k) x) ++ (spC 17 (S 2) ++ _)))
    rw [spC_u2 9 (S 1) h x]
    rfl
  · refine (rv_stI_tab (n := 40) (f := fun k => S 2 (14 + k)) rfl (by decide) h x).trans (congrArg some ?_)
    show _ = _ :: (spC 1 (S 0) ++ (spC 9 (S 1) ++ (spC 17 (upd (S 2) (14 + k) x) ++ _)))
    rw [spC_u2 17 (S 2) h x]
    rfl
theorem lfS3 (S F : Nat → Nat → Int32) (rb : Nat) {j : Nat} (hj : j < 3) : rv_ldFR (mC S F rb) (sp j) 1 2 = some (sa j 3) := lt3 (P := fun j => rv_ldFR (mC S F rb) (sp j) 1 2 = some (sa j 3)) rfl rfl rfl hj
theorem ldS3 (S F : Nat → Nat → Int32) (rb : Nat) {j : Nat} (hj : j < 3) {k : Nat} (h : k < 8) : rv_ldI (mC S F rb) (sa j 3) (nI k) = some (S j (54 + 4 * k + 0)) := lt3 (P := fun j => rv_ldI (mC S F rb) (sa j 3) (nI k) = some (S j (54 + 4 * k + 0))) (rv_ldI_tab (f := fun k => S 0 (54 + 4 * k + 0)) (by decide) rfl (by decide) h) (rv_ldI_tab (f := fun k => S 1 (54 + 4 * k + 0)) (by decide) rfl (by decide) h) (rv_ldI_tab (f := fun k => S 2 (54 + 4 * k + 0)) (by decide) rfl (by decide) h) hj
theorem spC_u3 (b : Nat) (s : Nat → Int32) {k0 : Nat} (h : k0 < 8) (x : Int32) : spC b (upd s (54 + 4 * k0 + 0) x) = [.inr (1, [.ref (b + 1), .ref (b + 2), .ref (b + 3), .ref (b + 4), .ref (b + 5), .ref (b + 6), .ref (b + 7), .int (s 0), .int (s 2), .int (s 1), .int (s 3), .int (s 96)]), .inl (0, .inl (rv_tab 10 (fun k => s (4 + k)))), .inl (0, .inl (rv_tab 40 (fun k => s (14 + k)))), .inl (0, .inl (rv_tab 8 (upd (fun k => s (54 + 4 * k + 0)) k0 x))), .inl (0, .inl (rv_tab 8 (fun k => s (54 + 4 * k + 1)))), .inl (0, .inl (rv_tab 8 (fun k => s (54 + 4 * k + 2)))), .inl (0, .inl (rv_tab 8 (fun k => s (54 + 4 * k + 3)))), .inl (0, .inl (rv_tab 10 (fun k => s (86 + k))))] := by
  have f0 : upd s (54 + 4 * k0 + 0) x 0 = s 0 := by simp only [upd]; grind
  have f2 : upd s (54 + 4 * k0 + 0) x 2 = s 2 := by simp only [upd]; grind
  have f1 : upd s (54 + 4 * k0 + 0) x 1 = s 1 := by simp only [upd]; grind
  have f3 : upd s (54 + 4 * k0 + 0) x 3 = s 3 := by simp only [upd]; grind
  have f96 : upd s (54 + 4 * k0 + 0) x 96 = s 96 := by simp only [upd]; grind
  have a1 : rv_tab 10 (fun k => upd s (54 + 4 * k0 + 0) x (4 + k)) = rv_tab 10 (fun k => s (4 + k)) := rv_tab_congr (fun k hk => by simp only [upd]; grind)
  have a2 : rv_tab 40 (fun k => upd s (54 + 4 * k0 + 0) x (14 + k)) = rv_tab 40 (fun k => s (14 + k)) := rv_tab_congr (fun k hk => by simp only [upd]; grind)
  have a3 : rv_tab 8 (fun k => upd s (54 + 4 * k0 + 0) x (54 + 4 * k + 0)) = rv_tab 8 (upd (fun k => s (54 + 4 * k + 0)) k0 x) := rv_tab_congr (fun k hk => by simp only [upd]; grind)
  have a4 : rv_tab 8 (fun k => upd s (54 + 4 * k0 + 0) x (54 + 4 * k + 1)) = rv_tab 8 (fun k => s (54 + 4 * k + 1)) := rv_tab_congr (fun k hk => by simp only [upd]; grind)
  have a5 : rv_tab 8 (fun k => upd s (54 + 4 * k0 + 0) x (54 + 4 * k + 2)) = rv_tab 8 (fun k => s (54 + 4 * k + 2)) := rv_tab_congr (fun k hk => by simp only [upd]; grind)
  have a6 : rv_tab 8 (fun k => upd s (54 + 4 * k0 + 0) x (54 + 4 * k + 3)) = rv_tab 8 (fun k => s (54 + 4 * k + 3)) := rv_tab_congr (fun k hk => by simp only [upd]; grind)
  have a7 : rv_tab 10 (fun k => upd s (54 + 4 * k0 + 0) x (86 + k)) = rv_tab 10 (fun k => s (86 + k)) := rv_tab_congr (fun k hk => by simp only [upd]; grind)
  unfold spC
  rw [f0, f2, f1, f3, f96, a1, a2, a3, a4, a5, a6, a7]
theorem stS3 (S F : Nat → Nat → Int32) (rb : Nat) {j : Nat} (hj : j < 3) {k : Nat} (h : k < 8) (x : Int32) : rv_stI (mC S F rb) (sa j 3) (nI k) x = some (mC (upB S j (54 + 4 * k + 0) x) F rb) := by
  refine lt3 (P := fun j => rv_stI (mC S F rb) (sa j 3) (nI k) x = some (mC (upB S j (54 + 4 * k + 0) x) F rb)) ?_ ?_ ?_ hj
  · refine (rv_stI_tab (n := 8) (f := fun k => S 0 (54 + 4 * k + 0)) rfl (by decide) h x).trans (congrArg some ?_)
    show _ = _ :: (spC 1 (upd (S 0) (54 + 4 * k + 0) x) ++ (spC 9 (S 1) ++ (spC 17 (S 2) ++ _)))
    rw [spC_u3 1 (S 0) h x]
    rfl
  · refine (rv_stI_tab (n := 8) (f := fun k => S 1 (54 + 4 * k + 0)) rfl (by decide) h x).trans (congrArg some ?_)
    show _ = _ :: (spC 1 (S 0) ++ (spC 9 (upd (S 1) (54 + 4 * k + 0) x) ++ (spC 17 (S 2) ++ _)))
    rw [spC_u3 9 (S 1) h x]
    rfl
  · refine (rv_stI_tab (n := 8) (f := fun k => S 2 (54 + 4 * k + 0)) rfl (by decide) h x).trans (congrArg some ?_)
    show _ = _ :: (spC 1 (S 0) ++ (spC 9 (S 1) ++ (spC 17 (upd (S 2) (54 + 4 * k + 0) x) ++ _)))
    rw [spC_u3 17 (S 2) h x]
    rfl
theorem lfS4 (S F : Nat → Nat → Int32) (rb : Nat) {j : Nat} (hj : j < 3) : rv_ldFR (mC S F rb) (sp j) 1 3 = some (sa j 4) := lt3 (P := fun j => rv_ldFR (mC S F rb) (sp j) 1 3 = some (sa j 4)) rfl rfl rfl hj
theorem ldS4 (S F : Nat → Nat → Int32) (rb : Nat) {j : Nat} (hj : j < 3) {k : Nat} (h : k < 8) : rv_ldI (mC S F rb) (sa j 4) (nI k) = some (S j (54 + 4 * k + 1)) := lt3 (P := fun j => rv_ldI (mC S F rb) (sa j 4) (nI k) = some (S j (54 + 4 * k + 1))) (rv_ldI_tab (f := fun k => S 0 (54 + 4 * k + 1)) (by decide) rfl (by decide) h) (rv_ldI_tab (f := fun k => S 1 (54 + 4 * k + 1)) (by decide) rfl (by decide) h) (rv_ldI_tab (f := fun k => S 2 (54 + 4 * k + 1)) (by decide) rfl (by decide) h) hj
theorem spC_u4 (b : Nat) (s : Nat → Int32) {k0 : Nat} (h : k0 < 8) (x : Int32) : spC b (upd s (54 + 4 * k0 + 1) x) = [.inr (1, [.ref (b + 1), .ref (b + 2), .ref (b + 3), .ref (b + 4), .ref (b + 5), .ref (b + 6), .ref (b + 7), .int (s 0), .int (s 2), .int (s 1), .int (s 3), .int (s 96)]), .inl (0, .inl (rv_tab 10 (fun k => s (4 + k)))), .inl (0, .inl (rv_tab 40 (fun k => s (14 + k)))), .inl (0, .inl (rv_tab 8 (fun k => s (54 + 4 * k + 0)))), .inl (0, .inl (rv_tab 8 (upd (fun k => s (54 + 4 * k + 1)) k0 x))), .inl (0, .inl (rv_tab 8 (fun k => s (54 + 4 * k + 2)))), .inl (0, .inl (rv_tab 8 (fun k => s (54 + 4 * k + 3)))), .inl (0, .inl (rv_tab 10 (fun k => s (86 + k))))] := by
  have f0 : upd s (54 + 4 * k0 + 1) x 0 = s 0 := by simp only [upd]; grind
  have f2 : upd s (54 + 4 * k0 + 1) x 2 = s 2 := by simp only [upd]; grind
  have f1 : upd s (54 + 4 * k0 + 1) x 1 = s 1 := by simp only [upd]; grind
  have f3 : upd s (54 + 4 * k0 + 1) x 3 = s 3 := by simp only [upd]; grind
  have f96 : upd s (54 + 4 * k0 + 1) x 96 = s 96 := by simp only [upd]; grind
  have a1 : rv_tab 10 (fun k => upd s (54 + 4 * k0 + 1) x (4 + k)) = rv_tab 10 (fun k => s (4 + k)) := rv_tab_congr (fun k hk => by simp only [upd]; grind)
  have a2 : rv_tab 40 (fun k => upd s (54 + 4 * k0 + 1) x (14 + k)) = rv_tab 40 (fun k => s (14 + k)) := rv_tab_congr (fun k hk => by simp only [upd]; grind)
  have a3 : rv_tab 8 (fun k => upd s (54 + 4 * k0 + 1) x (54 + 4 * k + 0)) = rv_tab 8 (fun k => s (54 + 4 * k + 0)) := rv_tab_congr (fun k hk => by simp only [upd]; grind)
  have a4 : rv_tab 8 (fun k => upd s (54 + 4 * k0 + 1) x (54 + 4 * k + 1)) = rv_tab 8 (upd (fun k => s (54 + 4 * k + 1)) k0 x) := rv_tab_congr (fun k hk => by simp only [upd]; grind)
  have a5 : rv_tab 8 (fun k => upd s (54 + 4 * k0 + 1) x (54 + 4 * k + 2)) = rv_tab 8 (fun k => s (54 + 4 * k + 2)) := rv_tab_congr (fun k hk => by simp only [upd]; grind)
  have a6 : rv_tab 8 (fun k => upd s (54 + 4 * k0 + 1) x (54 + 4 * k + 3)) = rv_tab 8 (fun k => s (54 + 4 * k + 3)) := rv_tab_congr (fun k hk => by simp only [upd]; grind)
  have a7 : rv_tab 10 (fun k => upd s (54 + 4 * k0 + 1) x (86 + k)) = rv_tab 10 (fun k => s (86 + k)) := rv_tab_congr (fun k hk => by simp only [upd]; grind)
  unfold spC
  rw [f0, f2, f1, f3, f96, a1, a2, a3, a4, a5, a6, a7]
theorem stS4 (S F : Nat → Nat → Int32) (rb : Nat) {j : Nat} (hj : j < 3) {k : Nat} (h : k < 8) (x : Int32) : rv_stI (mC S F rb) (sa j 4) (nI k) x = some (mC (upB S j (54 + 4 * k + 1) x) F rb) := by
  refine lt3 (P := fun j => rv_stI (mC S F rb) (sa j 4) (nI k) x = some (mC (upB S j (54 + 4 * k + 1) x) F rb)) ?_ ?_ ?_ hj
  · refine (rv_stI_tab (n := 8) (f := fun k => S 0 (54 + 4 * k + 1)) rfl (by decide) h x).trans (congrArg some ?_)
    show _ = _ :: (spC 1 (upd (S 0) (54 + 4 * k + 1) x) ++ (spC 9 (S 1) ++ (spC 17 (S 2) ++ _)))
    rw [spC_u4 1 (S 0) h x]
    rfl
  · refine (rv_stI_tab (n := 8) (f := fun k => S 1 (54 + 4 * k + 1)) rfl (by decide) h x).trans (congrArg some ?_)
    show _ = _ :: (spC 1 (S 0) ++ (spC 9 (upd (S 1) (54 + 4 * k + 1) x) ++ (spC 17 (S 2) ++ _)))
    rw [spC_u4 9 (S 1) h x]
    rfl
  · refine (rv_stI_tab (n := 8) (f := fun k => S 2 (54 + 4 * k + 1)) rfl (by decide) h x).trans (congrArg some ?_)
    show _ = _ :: (spC 1 (S 0) ++ (spC 9 (S 1) ++ (spC 17 (upd (S 2) (54 + 4 * k + 1) x) ++ _)))
    rw [spC_u4 17 (S 2) h x]
    rfl
theorem lfS5 (S F : Nat → Nat → Int32) (rb : Nat) {j : Nat} (hj : j < 3) : rv_ldFR (mC S F rb) (sp j) 1 4 = some (sa j 5) := lt3 (P := fun j => rv_ldFR (mC S F rb) (sp j) 1 4 = some (sa j 5)) rfl rfl rfl hj
theorem ldS5 (S F : Nat → Nat → Int32) (rb : Nat) {j : Nat} (hj : j < 3) {k : Nat} (h : k < 8) : rv_ldI (mC S F rb) (sa j 5) (nI k) = some (S j (54 + 4 * k + 2)) := lt3 (P := fun j => rv_ldI (mC S F rb) (sa j 5) (nI k) = some (S j (54 + 4 * k + 2))) (rv_ldI_tab (f := fun k => S 0 (54 + 4 * k + 2)) (by decide) rfl (by decide) h) (rv_ldI_tab (f := fun k => S 1 (54 + 4 * k + 2)) (by decide) rfl (by decide) h) (rv_ldI_tab (f := fun k => S 2 (54 + 4 * k + 2)) (by decide) rfl (by decide) h) hj
theorem spC_u5 (b : Nat) (s : Nat → Int32) {k0 : Nat} (h : k0 < 8) (x : Int32) : spC b (upd s (54 + 4 * k0 + 2) x) = [.inr (1, [.ref (b + 1), .ref (b + 2), .ref (b + 3), .ref (b + 4), .ref (b + 5), .ref (b + 6), .ref (b + 7), .int (s 0), .int (s 2), .int (s 1), .int (s 3), .int (s 96)]), .inl (0, .inl (rv_tab 10 (fun k => s (4 + k)))), .inl (0, .inl (rv_tab 40 (fun k => s (14 + k)))), .inl (0, .inl (rv_tab 8 (fun k => s (54 + 4 * k + 0)))), .inl (0, .inl (rv_tab 8 (fun k => s (54 + 4 * k + 1)))), .inl (0, .inl (rv_tab 8 (upd (fun k => s (54 + 4 * k + 2)) k0 x))), .inl (0, .inl (rv_tab 8 (fun k => s (54 + 4 * k + 3)))), .inl (0, .inl (rv_tab 10 (fun k => s (86 + k))))] := by
  have f0 : upd s (54 + 4 * k0 + 2) x 0 = s 0 := by simp only [upd]; grind
  have f2 : upd s (54 + 4 * k0 + 2) x 2 = s 2 := by simp only [upd]; grind
  have f1 : upd s (54 + 4 * k0 + 2) x 1 = s 1 := by simp only [upd]; grind
  have f3 : upd s (54 + 4 * k0 + 2) x 3 = s 3 := by simp only [upd]; grind
  have f96 : upd s (54 + 4 * k0 + 2) x 96 = s 96 := by simp only [upd]; grind
  have a1 : rv_tab 10 (fun k => upd s (54 + 4 * k0 + 2) x (4 + k)) = rv_tab 10 (fun k => s (4 + k)) := rv_tab_congr (fun k hk => by simp only [upd]; grind)
  have a2 : rv_tab 40 (fun k => upd s (54 + 4 * k0 + 2) x (14 + k)) = rv_tab 40 (fun k => s (14 + k)) := rv_tab_congr (fun k hk => by simp only [upd]; grind)
  have a3 : rv_tab 8 (fun k => upd s (54 + 4 * k0 + 2) x (54 + 4 * k + 0)) = rv_tab 8 (fun k => s (54 + 4 * k + 0)) := rv_tab_congr (fun k hk => by simp only [upd]; grind)
  have a4 : rv_tab 8 (fun k => upd s (54 + 4 * k0 + 2) x (54 + 4 * k + 1)) = rv_tab 8 (fun k => s (54 + 4 * k + 1)) := rv_tab_congr (fun k hk => by simp only [upd]; grind)
  have a5 : rv_tab 8 (fun k => upd s (54 + 4 * k0 + 2) x (54 + 4 * k + 2)) = rv_tab 8 (upd (fun k => s (54 + 4 * k + 2)) k0 x) := rv_tab_congr (fun k hk => by simp only [upd]; grind)
  have a6 : rv_tab 8 (fun k => upd s (54 + 4 * k0 + 2) x (54 + 4 * k + 3)) = rv_tab 8 (fun k => s (54 + 4 * k + 3)) := rv_tab_congr (fun k hk => by simp only [upd]; grind)
  have a7 : rv_tab 10 (fun k => upd s (54 + 4 * k0 + 2) x (86 + k)) = rv_tab 10 (fun k => s (86 + k)) := rv_tab_congr (fun k hk => by simp only [upd]; grind)
  unfold spC
  rw [f0, f2, f1, f3, f96, a1, a2, a3, a4, a5, a6, a7]
theorem stS5 (S F : Nat → Nat → Int32) (rb : Nat) {j : Nat} (hj : j < 3) {k : Nat} (h : k < 8) (x : Int32) : rv_stI (mC S F rb) (sa j 5) (nI k) x = some (mC (upB S j (54 + 4 * k + 2) x) F rb) := by
  refine lt3 (P := fun j => rv_stI (mC S F rb) (sa j 5) (nI k) x = some (mC (upB S j (54 + 4 * k + 2) x) F rb)) ?_ ?_ ?_ hj
  · refine (rv_stI_tab (n := 8) (f := fun k => S 0 (54 + 4 * k + 2)) rfl (by decide) h x).trans (congrArg some ?_)
    show _ = _ :: (spC 1 (upd (S 0) (54 + 4 * k + 2) x) ++ (spC 9 (S 1) ++ (spC 17 (S 2) ++ _)))
    rw [spC_u5 1 (S 0) h x]
    rfl
  · refine (rv_stI_tab (n := 8) (f := fun k => S 1 (54 + 4 * k + 2)) rfl (by decide) h x).trans (congrArg some ?_)
    show _ = _ :: (spC 1 (S 0) ++ (spC 9 (upd (S 1) (54 + 4 * k + 2) x) ++ (spC 17 (S 2) ++ _)))
    rw [spC_u5 9 (S 1) h x]
    rfl
  · refine (rv_stI_tab (n := 8) (f := fun k => S 2 (54 + 4 * k + 2)) rfl (by decide) h x).trans (congrArg some ?_)
    show _ = _ :: (spC 1 (S 0) ++ (spC 9 (S 1) ++ (spC 17 (upd (S 2) (54 + 4 * k + 2) x) ++ _)))
    rw [spC_u5 17 (S 2) h x]
    rfl
theorem lfS6 (S F : Nat → Nat → Int32) (rb : Nat) {j : Nat} (hj : j < 3) : rv_ldFR (mC S F rb) (sp j) 1 5 = some (sa j 6) := lt3 (P := fun j => rv_ldFR (mC S F rb) (sp j) 1 5 = some (sa j 6)) rfl rfl rfl hj
theorem ldS6 (S F : Nat → Nat → Int32) (rb : Nat) {j : Nat} (hj : j < 3) {k : Nat} (h : k < 8) : rv_ldI (mC S F rb) (sa j 6) (nI k) = some (S j (54 + 4 * k + 3)) := lt3 (P := fun j => rv_ldI (mC S F rb) (sa j 6) (nI k) = some (S j (54 + 4 * k + 3))) (rv_ldI_tab (f := fun k => S 0 (54 + 4 * k + 3)) (by decide) rfl (by decide) h) (rv_ldI_tab (f := fun k => S 1 (54 + 4 * k + 3)) (by decide) rfl (by decide) h) (rv_ldI_tab (f := fun k => S 2 (54 + 4 * k + 3)) (by decide) rfl (by decide) h) hj
theorem spC_u6 (b : Nat) (s : Nat → Int32) {k0 : Nat} (h : k0 < 8) (x : Int32) : spC b (upd s (54 + 4 * k0 + 3) x) = [.inr (1, [.ref (b + 1), .ref (b + 2), .ref (b + 3), .ref (b + 4), .ref (b + 5), .ref (b + 6), .ref (b + 7), .int (s 0), .int (s 2), .int (s 1), .int (s 3), .int (s 96)]), .inl (0, .inl (rv_tab 10 (fun k => s (4 + k)))), .inl (0, .inl (rv_tab 40 (fun k => s (14 + k)))), .inl (0, .inl (rv_tab 8 (fun k => s (54 + 4 * k + 0)))), .inl (0, .inl (rv_tab 8 (fun k => s (54 + 4 * k + 1)))), .inl (0, .inl (rv_tab 8 (fun k => s (54 + 4 * k + 2)))), .inl (0, .inl (rv_tab 8 (upd (fun k => s (54 + 4 * k + 3)) k0 x))), .inl (0, .inl (rv_tab 10 (fun k => s (86 + k))))] := by
  have f0 : upd s (54 + 4 * k0 + 3) x 0 = s 0 := by simp only [upd]; grind
  have f2 : upd s (54 + 4 * k0 + 3) x 2 = s 2 := by simp only [upd]; grind
  have f1 : upd s (54 + 4 * k0 + 3) x 1 = s 1 := by simp only [upd]; grind
  have f3 : upd s (54 + 4 * k0 + 3) x 3 = s 3 := by simp only [upd]; grind
  have f96 : upd s (54 + 4 * k0 + 3) x 96 = s 96 := by simp only [upd]; grind
  have a1 : rv_tab 10 (fun k => upd s (54 + 4 * k0 + 3) x (4 + k)) = rv_tab 10 (fun k => s (4 + k)) := rv_tab_congr (fun k hk => by simp only [upd]; grind)
  have a2 : rv_tab 40 (fun k => upd s (54 + 4 * k0 + 3) x (14 + k)) = rv_tab 40 (fun k => s (14 + k)) := rv_tab_congr (fun k hk => by simp only [upd]; grind)
  have a3 : rv_tab 8 (fun k => upd s (54 + 4 * k0 + 3) x (54 + 4 * k + 0)) = rv_tab 8 (fun k => s (54 + 4 * k + 0)) := rv_tab_congr (fun k hk => by simp only [upd]; grind)
  have a4 : rv_tab 8 (fun k => upd s (54 + 4 * k0 + 3) x (54 + 4 * k + 1)) = rv_tab 8 (fun k => s (54 + 4 * k + 1)) := rv_tab_congr (fun k hk => by simp only [upd]; grind)
  have a5 : rv_tab 8 (fun k => upd s (54 + 4 * k0 + 3) x (54 + 4 * k + 2)) = rv_tab 8 (fun k => s (54 + 4 * k + 2)) := rv_tab_congr (fun k hk => by simp only [upd]; grind)
  have a6 : rv_tab 8 (fun k => upd s (54 + 4 * k0 + 3) x (54 + 4 * k + 3)) = rv_tab 8 (upd (fun k => s (54 + 4 * k + 3)) k0 x) := rv_tab_congr (fun k hk => by simp only [upd]; grind)
  have a7 : rv_tab 10 (fun k => upd s (54 + 4 * k0 + 3) x (86 + k)) = rv_tab 10 (fun k => s (86 + k)) := rv_tab_congr (fun k hk => by simp only [upd]; grind)
  unfold spC
  rw [f0, f2, f1, f3, f96, a1, a2, a3, a4, a5, a6, a7]
theorem stS6 (S F : Nat → Nat → Int32) (rb : Nat) {j : Nat} (hj : j < 3) {k : Nat} (h : k < 8) (x : Int32) : rv_stI (mC S F rb) (sa j 6) (nI k) x = some (mC (upB S j (54 + 4 * k + 3) x) F rb) := by
  refine lt3 (P := fun j => rv_stI (mC S F rb) (sa j 6) (nI k) x = some (mC (upB S j (54 + 4 * k + 3) x) F rb)) ?_ ?_ ?_ hj
  · refine (rv_stI_tab (n := 8) (f := fun k => S 0 (54 + 4 * k + 3)) rfl (by decide) h x).trans (congrArg some ?_)
    show _ = _ :: (spC 1 (upd (S 0) (54 + 4 * k + 3) x) ++ (spC 9 (S 1) ++ (spC 17 (S 2) ++ _)))
    rw [spC_u6 1 (S 0) h x]
    rfl
  · refine (rv_stI_tab (n := 8) (f := fun k => S 1 (54 + 4 * k + 3)) rfl (by decide) h x).trans (congrArg some ?_)
    show _ = _ :: (spC 1 (S 0) ++ (spC 9 (upd (S 1) (54 + 4 * k + 3) x) ++ (spC 17 (S 2) ++ _)))
    rw [spC_u6 9 (S 1) h x]
    rfl
  · refine (rv_stI_tab (n := 8) (f := fun k => S 2 (54 + 4 * k + 3)) rfl (by decide) h x).trans (congrArg some ?_)
    show _ = _ :: (spC 1 (S 0) ++ (spC 9 (S 1) ++ (spC 17 (upd (S 2) (54 + 4 * k + 3) x) ++ _)))
    rw [spC_u6 17 (S 2) h x]
    rfl
theorem lfS7 (S F : Nat → Nat → Int32) (rb : Nat) {j : Nat} (hj : j < 3) : rv_ldFR (mC S F rb) (sp j) 1 6 = some (sa j 7) := lt3 (P := fun j => rv_ldFR (mC S F rb) (sp j) 1 6 = some (sa j 7)) rfl rfl rfl hj
theorem ldS7 (S F : Nat → Nat → Int32) (rb : Nat) {j : Nat} (hj : j < 3) {k : Nat} (h : k < 10) : rv_ldI (mC S F rb) (sa j 7) (nI k) = some (S j (86 + k)) := lt3 (P := fun j => rv_ldI (mC S F rb) (sa j 7) (nI k) = some (S j (86 + k))) (rv_ldI_tab (f := fun k => S 0 (86 + k)) (by decide) rfl (by decide) h) (rv_ldI_tab (f := fun k => S 1 (86 + k)) (by decide) rfl (by decide) h) (rv_ldI_tab (f := fun k => S 2 (86 + k)) (by decide) rfl (by decide) h) hj
theorem spC_u7 (b : Nat) (s : Nat → Int32) {k0 : Nat} (h : k0 < 10) (x : Int32) : spC b (upd s (86 + k0) x) = [.inr (1, [.ref (b + 1), .ref (b + 2), .ref (b + 3), .ref (b + 4), .ref (b + 5), .ref (b + 6), .ref (b + 7), .int (s 0), .int (s 2), .int (s 1), .int (s 3), .int (s 96)]), .inl (0, .inl (rv_tab 10 (fun k => s (4 + k)))), .inl (0, .inl (rv_tab 40 (fun k => s (14 + k)))), .inl (0, .inl (rv_tab 8 (fun k => s (54 + 4 * k + 0)))), .inl (0, .inl (rv_tab 8 (fun k => s (54 + 4 * k + 1)))), .inl (0, .inl (rv_tab 8 (fun k => s (54 + 4 * k + 2)))), .inl (0, .inl (rv_tab 8 (fun k => s (54 + 4 * k + 3)))), .inl (0, .inl (rv_tab 10 (upd (fun k => s (86 + k)) k0 x)))] := by
  have f0 : upd s (86 + k0) x 0 = s 0 := by simp only [upd]; grind
  have f2 : upd s (86 + k0) x 2 = s 2 := by simp only [upd]; grind
  have f1 : upd s (86 + k0) x 1 = s 1 := by simp only [upd]; grind
  have f3 : upd s (86 + k0) x 3 = s 3 := by simp only [upd]; grind
  have f96 : upd s (86 + k0) x 96 = s 96 := by simp only [upd]; grind
  have a1 : rv_tab 10 (fun k => upd s (86 + k0) x (4 + k)) = rv_tab 10 (fun k => s (4 + k)) := rv_tab_congr (fun k hk => by simp only [upd]; grind)
  have a2 : rv_tab 40 (fun k => upd s (86 + k0) x (14 + k)) = rv_tab 40 (fun k => s (14 + k)) := rv_tab_congr (fun k hk => by simp only [upd]; grind)
  have a3 : rv_tab 8 (fun k => upd s (86 + k0) x (54 + 4 * k + 0)) = rv_tab 8 (fun k => s (54 + 4 * k + 0)) := rv_tab_congr (fun k hk => by simp only [upd]; grind)
  have a4 : rv_tab 8 (fun k => upd s (86 + k0) x (54 + 4 * k + 1)) = rv_tab 8 (fun k => s (54 + 4 * k + 1)) := rv_tab_congr (fun k hk => by simp only [upd]; grind)
  have a5 : rv_tab 8 (fun k => upd s (86 + k0) x (54 + 4 * k + 2)) = rv_tab 8 (fun k => s (54 + 4 * k + 2)) := rv_tab_congr (fun k hk => by simp only [upd]; grind)
  have a6 : rv_tab 8 (fun k => upd s (86 + k0) x (54 + 4 * k + 3)) = rv_tab 8 (fun k => s (54 + 4 * k + 3)) := rv_tab_congr (fun k hk => by simp only [upd]; grind)
  have a7 : rv_tab 10 (fun k => upd s (86 + k0) x (86 + k)) = rv_tab 10 (upd (fun k => s (86 + k)) k0 x) := rv_tab_congr (fun k hk => by simp only [upd]; grind)
  unfold spC
  rw [f0, f2, f1, f3, f96, a1, a2, a3, a4, a5, a6, a7]
theorem stS7 (S F : Nat → Nat → Int32) (rb : Nat) {j : Nat} (hj : j < 3) {k : Nat} (h : k < 10) (x : Int32) : rv_stI (mC S F rb) (sa j 7) (nI k) x = some (mC (upB S j (86 + k) x) F rb) := by
  refine lt3 (P := fun j => rv_stI (mC S F rb) (sa j 7) (nI k) x = some (mC (upB S j (86 + k) x) F rb)) ?_ ?_ ?_ hj
  · refine (rv_stI_tab (n := 10) (f := fun k => S 0 (86 + k)) rfl (by decide) h x).trans (congrArg some ?_)
    show _ = _ :: (spC 1 (upd (S 0) (86 + k) x) ++ (spC 9 (S 1) ++ (spC 17 (S 2) ++ _)))
    rw [spC_u7 1 (S 0) h x]
    rfl
  · refine (rv_stI_tab (n := 10) (f := fun k => S 1 (86 + k)) rfl (by decide) h x).trans (congrArg some ?_)
    show _ = _ :: (spC 1 (S 0) ++ (spC 9 (upd (S 1) (86 + k) x) ++ (spC 17 (S 2) ++ _)))
    rw [spC_u7 9 (S 1) h x]
    rfl
  · refine (rv_stI_tab (n := 10) (f := fun k => S 2 (86 + k)) rfl (by decide) h x).trans (congrArg some ?_)
    show _ = _ :: (spC 1 (S 0) ++ (spC 9 (S 1) ++ (spC 17 (upd (S 2) (86 + k) x) ++ _)))
    rw [spC_u7 17 (S 2) h x]
    rfl
theorem lgS7 (S F : Nat → Nat → Int32) (rb : Nat) {j : Nat} (hj : j < 3) : rv_ldFI (mC S F rb) (sp j) 1 7 = some (S j 0) := lt3 (P := fun j => rv_ldFI (mC S F rb) (sp j) 1 7 = some (S j 0)) rfl rfl rfl hj
theorem spC_f7 (b : Nat) (s : Nat → Int32) (x : Int32) : spC b (upd s 0 x) = [.inr (1, [.ref (b + 1), .ref (b + 2), .ref (b + 3), .ref (b + 4), .ref (b + 5), .ref (b + 6), .ref (b + 7), .int (x), .int (s 2), .int (s 1), .int (s 3), .int (s 96)]), .inl (0, .inl (rv_tab 10 (fun k => s (4 + k)))), .inl (0, .inl (rv_tab 40 (fun k => s (14 + k)))), .inl (0, .inl (rv_tab 8 (fun k => s (54 + 4 * k + 0)))), .inl (0, .inl (rv_tab 8 (fun k => s (54 + 4 * k + 1)))), .inl (0, .inl (rv_tab 8 (fun k => s (54 + 4 * k + 2)))), .inl (0, .inl (rv_tab 8 (fun k => s (54 + 4 * k + 3)))), .inl (0, .inl (rv_tab 10 (fun k => s (86 + k))))] := by
  have a1 : rv_tab 10 (fun k => upd s 0 x (4 + k)) = rv_tab 10 (fun k => s (4 + k)) := rv_tab_congr (fun k hk => by simp only [upd]; grind)
  have a2 : rv_tab 40 (fun k => upd s 0 x (14 + k)) = rv_tab 40 (fun k => s (14 + k)) := rv_tab_congr (fun k hk => by simp only [upd]; grind)
  have a3 : rv_tab 8 (fun k => upd s 0 x (54 + 4 * k + 0)) = rv_tab 8 (fun k => s (54 + 4 * k + 0)) := rv_tab_congr (fun k hk => by simp only [upd]; grind)
  have a4 : rv_tab 8 (fun k => upd s 0 x (54 + 4 * k + 1)) = rv_tab 8 (fun k => s (54 + 4 * k + 1)) := rv_tab_congr (fun k hk => by simp only [upd]; grind)
  have a5 : rv_tab 8 (fun k => upd s 0 x (54 + 4 * k + 2)) = rv_tab 8 (fun k => s (54 + 4 * k + 2)) := rv_tab_congr (fun k hk => by simp only [upd]; grind)
  have a6 : rv_tab 8 (fun k => upd s 0 x (54 + 4 * k + 3)) = rv_tab 8 (fun k => s (54 + 4 * k + 3)) := rv_tab_congr (fun k hk => by simp only [upd]; grind)
  have a7 : rv_tab 10 (fun k => upd s 0 x (86 + k)) = rv_tab 10 (fun k => s (86 + k)) := rv_tab_congr (fun k hk => by simp only [upd]; grind)
  unfold spC
  rw [a1, a2, a3, a4, a5, a6, a7]
  rfl
theorem sgS7 (S F : Nat → Nat → Int32) (rb : Nat) {j : Nat} (hj : j < 3) (x : Int32) : rv_stF (mC S F rb) (sp j) 1 7 (.int x) = some (mC (upB S j 0 x) F rb) := by
  refine lt3 (P := fun j => rv_stF (mC S F rb) (sp j) 1 7 (.int x) = some (mC (upB S j 0 x) F rb)) ?_ ?_ ?_ hj
  · show some _ = some (_ :: (spC 1 (upd (S 0) 0 x) ++ (spC 9 (S 1) ++ (spC 17 (S 2) ++ _))))
    rw [spC_f7 1 (S 0) x]
    rfl
  · show some _ = some (_ :: (spC 1 (S 0) ++ (spC 9 (upd (S 1) 0 x) ++ (spC 17 (S 2) ++ _))))
    rw [spC_f7 9 (S 1) x]
    rfl
  · show some _ = some (_ :: (spC 1 (S 0) ++ (spC 9 (S 1) ++ (spC 17 (upd (S 2) 0 x) ++ _))))
    rw [spC_f7 17 (S 2) x]
    rfl
theorem lgS8 (S F : Nat → Nat → Int32) (rb : Nat) {j : Nat} (hj : j < 3) : rv_ldFI (mC S F rb) (sp j) 1 8 = some (S j 2) := lt3 (P := fun j => rv_ldFI (mC S F rb) (sp j) 1 8 = some (S j 2)) rfl rfl rfl hj
theorem spC_f8 (b : Nat) (s : Nat → Int32) (x : Int32) : spC b (upd s 2 x) = [.inr (1, [.ref (b + 1), .ref (b + 2), .ref (b + 3), .ref (b + 4), .ref (b + 5), .ref (b + 6), .ref (b + 7), .int (s 0), .int (x), .int (s 1), .int (s 3), .int (s 96)]), .inl (0, .inl (rv_tab 10 (fun k => s (4 + k)))), .inl (0, .inl (rv_tab 40 (fun k => s (14 + k)))), .inl (0, .inl (rv_tab 8 (fun k => s (54 + 4 * k + 0)))), .inl (0, .inl (rv_tab 8 (fun k => s (54 + 4 * k + 1)))), .inl (0, .inl (rv_tab 8 (fun k => s (54 + 4 * k + 2)))), .inl (0, .inl (rv_tab 8 (fun k => s (54 + 4 * k + 3)))), .inl (0, .inl (rv_tab 10 (fun k => s (86 + k))))] := by
  have a1 : rv_tab 10 (fun k => upd s 2 x (4 + k)) = rv_tab 10 (fun k => s (4 + k)) := rv_tab_congr (fun k hk => by simp only [upd]; grind)
  have a2 : rv_tab 40 (fun k => upd s 2 x (14 + k)) = rv_tab 40 (fun k => s (14 + k)) := rv_tab_congr (fun k hk => by simp only [upd]; grind)
  have a3 : rv_tab 8 (fun k => upd s 2 x (54 + 4 * k + 0)) = rv_tab 8 (fun k => s (54 + 4 * k + 0)) := rv_tab_congr (fun k hk => by simp only [upd]; grind)
  have a4 : rv_tab 8 (fun k => upd s 2 x (54 + 4 * k + 1)) = rv_tab 8 (fun k => s (54 + 4 * k + 1)) := rv_tab_congr (fun k hk => by simp only [upd]; grind)
  have a5 : rv_tab 8 (fun k => upd s 2 x (54 + 4 * k + 2)) = rv_tab 8 (fun k => s (54 + 4 * k + 2)) := rv_tab_congr (fun k hk => by simp only [upd]; grind)
  have a6 : rv_tab 8 (fun k => upd s 2 x (54 + 4 * k + 3)) = rv_tab 8 (fun k => s (54 + 4 * k + 3)) := rv_tab_congr (fun k hk => by simp only [upd]; grind)
  have a7 : rv_tab 10 (fun k => upd s 2 x (86 + k)) = rv_tab 10 (fun k => s (86 + k)) := rv_tab_congr (fun k hk => by simp only [upd]; grind)
  unfold spC
  rw [a1, a2, a3, a4, a5, a6, a7]
  rfl
theorem sgS8 (S F : Nat → Nat → Int32) (rb : Nat) {j : Nat} (hj : j < 3) (x : Int32) : rv_stF (mC S F rb) (sp j) 1 8 (.int x) = some (mC (upB S j 2 x) F rb) := by
  refine lt3 (P := fun j => rv_stF (mC S F rb) (sp j) 1 8 (.int x) = some (mC (upB S j 2 x) F rb)) ?_ ?_ ?_ hj
  · show some _ = some (_ :: (spC 1 (upd (S 0) 2 x) ++ (spC 9 (S 1) ++ (spC 17 (S 2) ++ _))))
    rw [spC_f8 1 (S 0) x]
    rfl
  · show some _ = some (_ :: (spC 1 (S 0) ++ (spC 9 (upd (S 1) 2 x) ++ (spC 17 (S 2) ++ _))))
    rw [spC_f8 9 (S 1) x]
    rfl
  · show some _ = some (_ :: (spC 1 (S 0) ++ (spC 9 (S 1) ++ (spC 17 (upd (S 2) 2 x) ++ _))))
    rw [spC_f8 17 (S 2) x]
    rfl
theorem lgS9 (S F : Nat → Nat → Int32) (rb : Nat) {j : Nat} (hj : j < 3) : rv_ldFI (mC S F rb) (sp j) 1 9 = some (S j 1) := lt3 (P := fun j => rv_ldFI (mC S F rb) (sp j) 1 9 = some (S j 1)) rfl rfl rfl hj
theorem spC_f9 (b : Nat) (s : Nat → Int32) (x : Int32) : spC b (upd s 1 x) = [.inr (1, [.ref (b + 1), .ref (b + 2), .ref (b + 3), .ref (b + 4), .ref (b + 5), .ref (b + 6), .ref (b + 7), .int (s 0), .int (s 2), .int (x), .int (s 3), .int (s 96)]), .inl (0, .inl (rv_tab 10 (fun k => s (4 + k)))), .inl (0, .inl (rv_tab 40 (fun k => s (14 + k)))), .inl (0, .inl (rv_tab 8 (fun k => s (54 + 4 * k + 0)))), .inl (0, .inl (rv_tab 8 (fun k => s (54 + 4 * k + 1)))), .inl (0, .inl (rv_tab 8 (fun k => s (54 + 4 * k + 2)))), .inl (0, .inl (rv_tab 8 (fun k => s (54 + 4 * k + 3)))), .inl (0, .inl (rv_tab 10 (fun k => s (86 + k))))] := by
  have a1 : rv_tab 10 (fun k => upd s 1 x (4 + k)) = rv_tab 10 (fun k => s (4 + k)) := rv_tab_congr (fun k hk => by simp only [upd]; grind)
  have a2 : rv_tab 40 (fun k => upd s 1 x (14 + k)) = rv_tab 40 (fun k => s (14 + k)) := rv_tab_congr (fun k hk => by simp only [upd]; grind)
  have a3 : rv_tab 8 (fun k => upd s 1 x (54 + 4 * k + 0)) = rv_tab 8 (fun k => s (54 + 4 * k + 0)) := rv_tab_congr (fun k hk => by simp only [upd]; grind)
  have a4 : rv_tab 8 (fun k => upd s 1 x (54 + 4 * k + 1)) = rv_tab 8 (fun k => s (54 + 4 * k + 1)) := rv_tab_congr (fun k hk => by simp only [upd]; grind)
  have a5 : rv_tab 8 (fun k => upd s 1 x (54 + 4 * k + 2)) = rv_tab 8 (fun k => s (54 + 4 * k + 2)) := rv_tab_congr (fun k hk => by simp only [upd]; grind)
  have a6 : rv_tab 8 (fun k => upd s 1 x (54 + 4 * k + 3)) = rv_tab 8 (fun k => s (54 + 4 * k + 3)) := rv_tab_congr (fun k hk => by simp only [upd]; grind)
  have a7 : rv_tab 10 (fun k => upd s 1 x (86 + k)) = rv_tab 10 (fun k => s (86 + k)) := rv_tab_congr (fun k hk => by simp only [upd]; grind)
  unfold spC
  rw [a1, a2, a3, a4, a5, a6, a7]
  rfl
theorem sgS9 (S F : Nat → Nat → Int32) (rb : Nat) {j : Nat} (hj : j < 3) (x : Int32) : rv_stF (mC S F rb) (sp j) 1 9 (.int x) = some (mC (upB S j 1 x) F rb) := by
  refine lt3 (P := fun j => rv_stF (mC S F rb) (sp j) 1 9 (.int x) = some (mC (upB S j 1 x) F rb)) ?_ ?_ ?_ hj
  · show some _ = some (_ :: (spC 1 (upd (S 0) 1 x) ++ (spC 9 (S 1) ++ (spC 17 (S 2) ++ _))))
    rw [spC_f9 1 (S 0) x]
    rfl
  · show some _ = some (_ :: (spC 1 (S 0) ++ (spC 9 (upd (S 1) 1 x) ++ (spC 17 (S 2) ++ _))))
    rw [spC_f9 9 (S 1) x]
    rfl
  · show some _ = some (_ :: (spC 1 (S 0) ++ (spC 9 (S 1) ++ (spC 17 (upd (S 2) 1 x) ++ _))))
    rw [spC_f9 17 (S 2) x]
    rfl
theorem lgS10 (S F : Nat → Nat → Int32) (rb : Nat) {j : Nat} (hj : j < 3) : rv_ldFI (mC S F rb) (sp j) 1 10 = some (S j 3) := lt3 (P := fun j => rv_ldFI (mC S F rb) (sp j) 1 10 = some (S j 3)) rfl rfl rfl hj
theorem spC_f10 (b : Nat) (s : Nat → Int32) (x : Int32) : spC b (upd s 3 x) = [.inr (1, [.ref (b + 1), .ref (b + 2), .ref (b + 3), .ref (b + 4), .ref (b + 5), .ref (b + 6), .ref (b + 7), .int (s 0), .int (s 2), .int (s 1), .int (x), .int (s 96)]), .inl (0, .inl (rv_tab 10 (fun k => s (4 + k)))), .inl (0, .inl (rv_tab 40 (fun k => s (14 + k)))), .inl (0, .inl (rv_tab 8 (fun k => s (54 + 4 * k + 0)))), .inl (0, .inl (rv_tab 8 (fun k => s (54 + 4 * k + 1)))), .inl (0, .inl (rv_tab 8 (fun k => s (54 + 4 * k + 2)))), .inl (0, .inl (rv_tab 8 (fun k => s (54 + 4 * k + 3)))), .inl (0, .inl (rv_tab 10 (fun k => s (86 + k))))] := by
  have a1 : rv_tab 10 (fun k => upd s 3 x (4 + k)) = rv_tab 10 (fun k => s (4 + k)) := rv_tab_congr (fun k hk => by simp only [upd]; grind)
  have a2 : rv_tab 40 (fun k => upd s 3 x (14 + k)) = rv_tab 40 (fun k => s (14 + k)) := rv_tab_congr (fun k hk => by simp only [upd]; grind)
  have a3 : rv_tab 8 (fun k => upd s 3 x (54 + 4 * k + 0)) = rv_tab 8 (fun k => s (54 + 4 * k + 0)) := rv_tab_congr (fun k hk => by simp only [upd]; grind)
  have a4 : rv_tab 8 (fun k => upd s 3 x (54 + 4 * k + 1)) = rv_tab 8 (fun k => s (54 + 4 * k + 1)) := rv_tab_congr (fun k hk => by simp only [upd]; grind)
  have a5 : rv_tab 8 (fun k => upd s 3 x (54 + 4 * k + 2)) = rv_tab 8 (fun k => s (54 + 4 * k + 2)) := rv_tab_congr (fun k hk => by simp only [upd]; grind)
  have a6 : rv_tab 8 (fun k => upd s 3 x (54 + 4 * k + 3)) = rv_tab 8 (fun k => s (54 + 4 * k + 3)) := rv_tab_congr (fun k hk => by simp only [upd]; grind)
  have a7 : rv_tab 10 (fun k => upd s 3 x (86 + k)) = rv_tab 10 (fun k => s (86 + k)) := rv_tab_congr (fun k hk => by simp only [upd]; grind)
  unfold spC
  rw [a1, a2, a3, a4, a5, a6, a7]
  rfl
theorem sgS10 (S F : Nat → Nat → Int32) (rb : Nat) {j : Nat} (hj : j < 3) (x : Int32) : rv_stF (mC S F rb) (sp j) 1 10 (.int x) = some (mC (upB S j 3 x) F rb) := by
  refine lt3 (P := fun j => rv_stF (mC S F rb) (sp j) 1 10 (.int x) = some (mC (upB S j 3 x) F rb)) ?_ ?_ ?_ hj
  · show some _ = some (_ :: (spC 1 (upd (S 0) 3 x) ++ (spC 9 (S 1) ++ (spC 17 (S 2) ++ _))))
    rw [spC_f10 1 (S 0) x]
    rfl
  · show some _ = some (_ :: (spC 1 (S 0) ++ (spC 9 (upd (S 1) 3 x) ++ (spC 17 (S 2) ++ _))))
    rw [spC_f10 9 (S 1) x]
    rfl
  · show some _ = some (_ :: (spC 1 (S 0) ++ (spC 9 (S 1) ++ (spC 17 (upd (S 2) 3 x) ++ _))))
    rw [spC_f10 17 (S 2) x]
    rfl
theorem lgS11 (S F : Nat → Nat → Int32) (rb : Nat) {j : Nat} (hj : j < 3) : rv_ldFI (mC S F rb) (sp j) 1 11 = some (S j 96) := lt3 (P := fun j => rv_ldFI (mC S F rb) (sp j) 1 11 = some (S j 96)) rfl rfl rfl hj
theorem spC_f11 (b : Nat) (s : Nat → Int32) (x : Int32) : spC b (upd s 96 x) = [.inr (1, [.ref (b + 1), .ref (b + 2), .ref (b + 3), .ref (b + 4), .ref (b + 5), .ref (b + 6), .ref (b + 7), .int (s 0), .int (s 2), .int (s 1), .int (s 3), .int (x)]), .inl (0, .inl (rv_tab 10 (fun k => s (4 + k)))), .inl (0, .inl (rv_tab 40 (fun k => s (14 + k)))), .inl (0, .inl (rv_tab 8 (fun k => s (54 + 4 * k + 0)))), .inl (0, .inl (rv_tab 8 (fun k => s (54 + 4 * k + 1)))), .inl (0, .inl (rv_tab 8 (fun k => s (54 + 4 * k + 2)))), .inl (0, .inl (rv_tab 8 (fun k => s (54 + 4 * k + 3)))), .inl (0, .inl (rv_tab 10 (fun k => s (86 + k))))] := by
  have a1 : rv_tab 10 (fun k => upd s 96 x (4 + k)) = rv_tab 10 (fun k => s (4 + k)) := rv_tab_congr (fun k hk => by simp only [upd]; grind)
  have a2 : rv_tab 40 (fun k => upd s 96 x (14 + k)) = rv_tab 40 (fun k => s (14 + k)) := rv_tab_congr (fun k hk => by simp only [upd]; grind)
  have a3 : rv_tab 8 (fun k => upd s 96 x (54 + 4 * k + 0)) = rv_tab 8 (fun k => s (54 + 4 * k + 0)) := rv_tab_congr (fun k hk => by simp only [upd]; grind)
  have a4 : rv_tab 8 (fun k => upd s 96 x (54 + 4 * k + 1)) = rv_tab 8 (fun k => s (54 + 4 * k + 1)) := rv_tab_congr (fun k hk => by simp only [upd]; grind)
  have a5 : rv_tab 8 (fun k => upd s 96 x (54 + 4 * k + 2)) = rv_tab 8 (fun k => s (54 + 4 * k + 2)) := rv_tab_congr (fun k hk => by simp only [upd]; grind)
  have a6 : rv_tab 8 (fun k => upd s 96 x (54 + 4 * k + 3)) = rv_tab 8 (fun k => s (54 + 4 * k + 3)) := rv_tab_congr (fun k hk => by simp only [upd]; grind)
  have a7 : rv_tab 10 (fun k => upd s 96 x (86 + k)) = rv_tab 10 (fun k => s (86 + k)) := rv_tab_congr (fun k hk => by simp only [upd]; grind)
  unfold spC
  rw [a1, a2, a3, a4, a5, a6, a7]
  rfl
theorem sgS11 (S F : Nat → Nat → Int32) (rb : Nat) {j : Nat} (hj : j < 3) (x : Int32) : rv_stF (mC S F rb) (sp j) 1 11 (.int x) = some (mC (upB S j 96 x) F rb) := by
  refine lt3 (P := fun j => rv_stF (mC S F rb) (sp j) 1 11 (.int x) = some (mC (upB S j 96 x) F rb)) ?_ ?_ ?_ hj
  · show some _ = some (_ :: (spC 1 (upd (S 0) 96 x) ++ (spC 9 (S 1) ++ (spC 17 (S 2) ++ _))))
    rw [spC_f11 1 (S 0) x]
    rfl
  · show some _ = some (_ :: (spC 1 (S 0) ++ (spC 9 (upd (S 1) 96 x) ++ (spC 17 (S 2) ++ _))))
    rw [spC_f11 9 (S 1) x]
    rfl
  · show some _ = some (_ :: (spC 1 (S 0) ++ (spC 9 (S 1) ++ (spC 17 (upd (S 2) 96 x) ++ _))))
    rw [spC_f11 17 (S 2) x]
    rfl
theorem obS (S F : Nat → Nat → Int32) (rb : Nat) {j : Nat} (hj : j < 3) : (rv_obj (mC S F rb) (sp j) 1).isSome = true := lt3 (P := fun j => (rv_obj (mC S F rb) (sp j) 1).isSome = true) rfl rfl rfl hj
theorem lfC0 (S F : Nat → Nat → Int32) (rb : Nat) : rv_ldFR (mC S F rb) 0 3 0 = some (sp 0) := rfl
theorem lfC1 (S F : Nat → Nat → Int32) (rb : Nat) : rv_ldFR (mC S F rb) 0 3 1 = some (sp 1) := rfl
theorem lfC2 (S F : Nat → Nat → Int32) (rb : Nat) : rv_ldFR (mC S F rb) 0 3 2 = some (sp 2) := rfl
theorem lfC3 (S F : Nat → Nat → Int32) (rb : Nat) : rv_ldFR (mC S F rb) 0 3 3 = some 25 := rfl
theorem lfC4 (S F : Nat → Nat → Int32) (rb : Nat) : rv_ldFR (mC S F rb) 0 3 4 = some 34 := rfl
theorem lfC5 (S F : Nat → Nat → Int32) (rb : Nat) : rv_ldFR (mC S F rb) 0 3 5 = some 35 := rfl
theorem lfC6 (S F : Nat → Nat → Int32) (rb : Nat) : rv_ldFR (mC S F rb) 0 3 6 = some 37 := rfl
theorem lgC7 (S F : Nat → Nat → Int32) (rb : Nat) : rv_ldFI (mC S F rb) 0 3 7 = some (F 0 7) := rfl
theorem sgC7 (S F : Nat → Nat → Int32) (rb : Nat) (x : Int32) : rv_stF (mC S F rb) 0 3 7 (.int x) = some (mC S (upB F 0 7 x) rb) := rfl
theorem lgC8 (S F : Nat → Nat → Int32) (rb : Nat) : rv_ldFI (mC S F rb) 0 3 8 = some (F 0 8) := rfl
theorem sgC8 (S F : Nat → Nat → Int32) (rb : Nat) (x : Int32) : rv_stF (mC S F rb) 0 3 8 (.int x) = some (mC S (upB F 0 8 x) rb) := rfl
theorem obC (S F : Nat → Nat → Int32) (rb : Nat) : (rv_obj (mC S F rb) 0 3).isSome = true := rfl
theorem ldQ (S F : Nat → Nat → Int32) (rb : Nat) {i : Nat} (hi : i < 4) : rv_ldQ (mC S F rb) 25 (nI i) = some (sh i) := lt4 (P := fun i => rv_ldQ (mC S F rb) 25 (nI i) = some (sh i)) rfl rfl rfl rfl hi
theorem obH (S F : Nat → Nat → Int32) (rb : Nat) {i : Nat} (hi : i < 4) : (rv_obj (mC S F rb) (sh i) 0).isSome = true := lt4 (P := fun i => (rv_obj (mC S F rb) (sh i) 0).isSome = true) rfl rfl rfl rfl hi
theorem lfH (S F : Nat → Nat → Int32) (rb : Nat) {i : Nat} (hi : i < 4) : rv_ldFR (mC S F rb) (sh i) 0 0 = some (sn i) := lt4 (P := fun i => rv_ldFR (mC S F rb) (sh i) 0 0 = some (sn i)) rfl rfl rfl rfl hi
theorem lgH1 (S F : Nat → Nat → Int32) (rb : Nat) {i : Nat} (hi : i < 4) : rv_ldFI (mC S F rb) (sh i) 0 1 = some (F (sh i) 1) := lt4 (P := fun i => rv_ldFI (mC S F rb) (sh i) 0 1 = some (F (sh i) 1)) rfl rfl rfl rfl hi
theorem sgH1 (S F : Nat → Nat → Int32) (rb : Nat) {i : Nat} (hi : i < 4) (x : Int32) : rv_stF (mC S F rb) (sh i) 0 1 (.int x) = some (mC S (upB F (sh i) 1 x) rb) := lt4 (P := fun i => rv_stF (mC S F rb) (sh i) 0 1 (.int x) = some (mC S (upB F (sh i) 1 x) rb)) rfl rfl rfl rfl hi
theorem lgH2 (S F : Nat → Nat → Int32) (rb : Nat) {i : Nat} (hi : i < 4) : rv_ldFI (mC S F rb) (sh i) 0 2 = some (F (sh i) 2) := lt4 (P := fun i => rv_ldFI (mC S F rb) (sh i) 0 2 = some (F (sh i) 2)) rfl rfl rfl rfl hi
theorem sgH2 (S F : Nat → Nat → Int32) (rb : Nat) {i : Nat} (hi : i < 4) (x : Int32) : rv_stF (mC S F rb) (sh i) 0 2 (.int x) = some (mC S (upB F (sh i) 2 x) rb) := lt4 (P := fun i => rv_stF (mC S F rb) (sh i) 0 2 (.int x) = some (mC S (upB F (sh i) 2 x) rb)) rfl rfl rfl rfl hi
theorem ldH (S F : Nat → Nat → Int32) (rb : Nat) {i : Nat} (hi : i < 4) {k : Nat} (h : k < 40) : rv_ldI (mC S F rb) (sn i) (nI k) = some (F (sn i) k) := lt4 (P := fun i => rv_ldI (mC S F rb) (sn i) (nI k) = some (F (sn i) k)) (rv_ldI_tab (by decide) rfl (by decide) h) (rv_ldI_tab (by decide) rfl (by decide) h) (rv_ldI_tab (by decide) rfl (by decide) h) (rv_ldI_tab (by decide) rfl (by decide) h) hi
theorem stH (S F : Nat → Nat → Int32) (rb : Nat) {i : Nat} (hi : i < 4) {k : Nat} (h : k < 40) (x : Int32) : rv_stI (mC S F rb) (sn i) (nI k) x = some (mC S (upB F (sn i) k x) rb) := by
  refine lt4 (P := fun i => rv_stI (mC S F rb) (sn i) (nI k) x = some (mC S (upB F (sn i) k x) rb)) ?_ ?_ ?_ ?_ hi
  · exact (rv_stI_tab (n := 40) (f := F 27) rfl (by decide) h x).trans rfl
  · exact (rv_stI_tab (n := 40) (f := F 29) rfl (by decide) h x).trans rfl
  · exact (rv_stI_tab (n := 40) (f := F 31) rfl (by decide) h x).trans rfl
  · exact (rv_stI_tab (n := 40) (f := F 33) rfl (by decide) h x).trans rfl
theorem ldF (S F : Nat → Nat → Int32) (rb : Nat) {k : Nat} (h : k < 7) : rv_ldI (mC S F rb) 37 (nI k) = some (F 37 k) := rv_ldI_tab (by decide) rfl (by decide) h
theorem stF (S F : Nat → Nat → Int32) (rb : Nat) {k : Nat} (h : k < 7) (x : Int32) : rv_stI (mC S F rb) 37 (nI k) x = some (mC S (upB F 37 k x) rb) := (rv_stI_tab (n := 7) (f := F 37) rfl (by decide) h x).trans rfl
theorem ldT (S F : Nat → Nat → Int32) (rb : Nat) {k : Nat} (h : k < 120) : rv_ldB (mC S F rb) 34 (nI k) = some (F 34 k) := rv_ldB_tab (by decide) rfl (by decide) h
theorem stT (S F : Nat → Nat → Int32) (rb : Nat) {k : Nat} (h : k < 120) (x : Int32) : rv_stB (mC S F rb) 34 (nI k) x = some (mC S (upB F 34 k x.toInt8.toInt32) rb) := (rv_stB_tab (n := 120) (f := F 34) rfl (by decide) h x).trans rfl
theorem lfB (S F : Nat → Nat → Int32) (rb : Nat) : rv_ldFR (mC S F rb) 35 2 0 = some rb := rfl
theorem sfB (S F : Nat → Nat → Int32) (rb : Nat) (x : Nat) : rv_stF (mC S F rb) 35 2 0 (.ref x) = some (mC S F x) := rfl
theorem obB (S F : Nat → Nat → Int32) (rb : Nat) : (rv_obj (mC S F rb) 35 2).isSome = true := rfl
theorem lgB1 (S F : Nat → Nat → Int32) (rb : Nat) : rv_ldFI (mC S F rb) 35 2 1 = some (F 35 1) := rfl
theorem sgB1 (S F : Nat → Nat → Int32) (rb : Nat) (x : Int32) : rv_stF (mC S F rb) 35 2 1 (.int x) = some (mC S (upB F 35 1 x) rb) := rfl
theorem lgB2 (S F : Nat → Nat → Int32) (rb : Nat) : rv_ldFI (mC S F rb) 35 2 2 = some (F 35 2) := rfl
theorem sgB2 (S F : Nat → Nat → Int32) (rb : Nat) (x : Int32) : rv_stF (mC S F rb) 35 2 2 (.int x) = some (mC S (upB F 35 2 x) rb) := rfl
theorem lgB3 (S F : Nat → Nat → Int32) (rb : Nat) : rv_ldFI (mC S F rb) 35 2 3 = some (F 35 3) := rfl
theorem sgB3 (S F : Nat → Nat → Int32) (rb : Nat) (x : Int32) : rv_stF (mC S F rb) 35 2 3 (.int x) = some (mC S (upB F 35 3 x) rb) := rfl
theorem lgB4 (S F : Nat → Nat → Int32) (rb : Nat) : rv_ldFI (mC S F rb) 35 2 4 = some (F 35 4) := rfl
theorem sgB4 (S F : Nat → Nat → Int32) (rb : Nat) (x : Int32) : rv_stF (mC S F rb) 35 2 4 (.int x) = some (mC S (upB F 35 4 x) rb) := rfl
theorem lgB5 (S F : Nat → Nat → Int32) (rb : Nat) : rv_ldFI (mC S F rb) 35 2 5 = some (F 35 5) := rfl
theorem sgB5 (S F : Nat → Nat → Int32) (rb : Nat) (x : Int32) : rv_stF (mC S F rb) 35 2 5 (.int x) = some (mC S (upB F 35 5 x) rb) := rfl
end
section
/-! ONE SPA: row j of the class's world is s -/
def cR (S : Nat → Nat → Int32) (j : Nat) (s : Nat → Int32) (F : Nat → Nat → Int32) (rb : Nat) : rv_W := mC (upA S j s) F rb
theorem cR_self (S : Nat → Nat → Int32) (j : Nat) (F : Nat → Nat → Int32) (rb : Nat) : cR S j (S j) F rb = mC S F rb := by unfold cR; rw [upA_self]
theorem spC_congr (b : Nat) {s q : Nat → Int32} (h : ∀ i, i ≤ 96 → s i = q i) : spC b s = spC b q := by
  unfold spC
  rw [h 0 (by decide), h 1 (by decide), h 2 (by decide), h 3 (by decide), h 96 (by decide), rv_tab_congr (n := 10) (f := fun k => s (4 + k)) (g := fun k => q (4 + k)) (fun k hk => h _ (by omega)), rv_tab_congr (n := 40) (f := fun k => s (14 + k)) (g := fun k => q (14 + k)) (fun k hk => h _ (by omega)), rv_tab_congr (n := 8) (f := fun k => s (54 + 4 * k + 0)) (g := fun k => q (54 + 4 * k + 0)) (fun k hk => h _ (by omega)), rv_tab_congr (n := 8) (f := fun k => s (54 + 4 * k + 1)) (g := fun k => q (54 + 4 * k + 1)) (fun k hk => h _ (by omega)), rv_tab_congr (n := 8) (f := fun k => s (54 + 4 * k + 2)) (g := fun k => q (54 + 4 * k + 2)) (fun k hk => h _ (by omega)), rv_tab_congr (n := 8) (f := fun k => s (54 + 4 * k + 3)) (g := fun k => q (54 + 4 * k + 3)) (fun k hk => h _ (by omega)), rv_tab_congr (n := 10) (f := fun k => s (86 + k)) (g := fun k => q (86 + k)) (fun k hk => h _ (by omega))]
theorem mC_congr {S T : Nat → Nat → Int32} (F : Nat → Nat → Int32) (rb : Nat) (h : ∀ j, j < 3 → ∀ i, i ≤ 96 → S j i = T j i) : mC S F rb = mC T F rb := by
  unfold mC
  rw [spC_congr 1 (h 0 (by decide)), spC_congr 9 (h 1 (by decide)), spC_congr 17 (h 2 (by decide))]
theorem cR_congr (S : Nat → Nat → Int32) (j : Nat) (F : Nat → Nat → Int32) (rb : Nat) {s q : Nat → Int32} (h : ∀ i, i ≤ 96 → s i = q i) : cR S j s F rb = cR S j q F rb := by
  refine mC_congr F rb (fun k _ i hi => ?_)
  unfold upA
  by_cases e : k = j
  · rw [if_pos e, if_pos e]; exact h i hi
  · rw [if_neg e, if_neg e]
theorem upB_up (S : Nat → Nat → Int32) (j : Nat) (s : Nat → Int32) (i : Nat) (x : Int32) : upB (upA S j s) j i x = upA S j (upd s i x) := by unfold upB; rw [upA_upA, upA_s]
theorem cf1 (S : Nat → Nat → Int32) {j : Nat} (hj : j < 3) (s : Nat → Int32) (F : Nat → Nat → Int32) (rb : Nat) : rv_ldFR (cR S j s F rb) (sp j) 1 0 = some (sa j 1) := lfS1 _ F rb hj
theorem cl1 (S : Nat → Nat → Int32) {j : Nat} (hj : j < 3) (s : Nat → Int32) (F : Nat → Nat → Int32) (rb : Nat) {k : Nat} (h : k < 10) : rv_ldI (cR S j s F rb) (sa j 1) (nI k) = some (s (4 + k)) := by
  unfold cR
  rw [ldS1 _ F rb hj h, upA_s]
theorem ct1 (S : Nat → Nat → Int32) {j : Nat} (hj : j < 3) (s : Nat → Int32) (F : Nat → Nat → Int32) (rb : Nat) {k : Nat} (h : k < 10) (x : Int32) : rv_stI (cR S j s F rb) (sa j 1) (nI k) x = some (cR S j (upd s (4 + k) x) F rb) := by
  unfold cR
  rw [stS1 _ F rb hj h, upB_up]
theorem cf2 (S : Nat → Nat → Int32) {j : Nat} (hj : j < 3) (s : Nat → Int32) (F : Nat → Nat → Int32) (rb : Nat) : rv_ldFR (cR S j s F rb) (sp j) 1 1 = some (sa j 2) := lfS2 _ F rb hj
theorem cl2 (S : Nat → Nat → Int32) {j : Nat} (hj : j < 3) (s : Nat → Int32) (F : Nat → Nat → Int32) (rb : Nat) {k : Nat} (h : k < 40) : rv_ldI (cR S j s F rb) (sa j 2) (nI k) = some (s (14 + k)) := by
  unfold cR
  rw [ldS2 _ F rb hj h, upA_s]
theorem ct2 (S : Nat → Nat → Int32) {j : Nat} (hj : j < 3) (s : Nat → Int32) (F : Nat → Nat → Int32) (rb : Nat) {k : Nat} (h : k < 40) (x : Int32) : rv_stI (cR S j s F rb) (sa j 2) (nI k) x = some (cR S j (upd s (14 + k) x) F rb) := by
  unfold cR
  rw [stS2 _ F rb hj h, upB_up]
theorem cf3 (S : Nat → Nat → Int32) {j : Nat} (hj : j < 3) (s : Nat → Int32) (F : Nat → Nat → Int32) (rb : Nat) : rv_ldFR (cR S j s F rb) (sp j) 1 2 = some (sa j 3) := lfS3 _ F rb hj
theorem cl3 (S : Nat → Nat → Int32) {j : Nat} (hj : j < 3) (s : Nat → Int32) (F : Nat → Nat → Int32) (rb : Nat) {k : Nat} (h : k < 8) : rv_ldI (cR S j s F rb) (sa j 3) (nI k) = some (s (54 + 4 * k + 0)) := by
  unfold cR
  rw [ldS3 _ F rb hj h, upA_s]
theorem ct3 (S : Nat → Nat → Int32) {j : Nat} (hj : j < 3) (s : Nat → Int32) (F : Nat → Nat → Int32) (rb : Nat) {k : Nat} (h : k < 8) (x : Int32) : rv_stI (cR S j s F rb) (sa j 3) (nI k) x = some (cR S j (upd s (54 + 4 * k + 0) x) F rb) := by
  unfold cR
  rw [stS3 _ F rb hj h, upB_up]
theorem cf4 (S : Nat → Nat → Int32) {j : Nat} (hj : j < 3) (s : Nat → Int32) (F : Nat → Nat → Int32) (rb : Nat) : rv_ldFR (cR S j s F rb) (sp j) 1 3 = some (sa j 4) := lfS4 _ F rb hj
theorem cl4 (S : Nat → Nat → Int32) {j : Nat} (hj : j < 3) (s : Nat → Int32) (F : Nat → Nat → Int32) (rb : Nat) {k : Nat} (h : k < 8) : rv_ldI (cR S j s F rb) (sa j 4) (nI k) = some (s (54 + 4 * k + 1)) := by
  unfold cR
  rw [ldS4 _ F rb hj h, upA_s]
theorem ct4 (S : Nat → Nat → Int32) {j : Nat} (hj : j < 3) (s : Nat → Int32) (F : Nat → Nat → Int32) (rb : Nat) {k : Nat} (h : k < 8) (x : Int32) : rv_stI (cR S j s F rb) (sa j 4) (nI k) x = some (cR S j (upd s (54 + 4 * k + 1) x) F rb) := by
  unfold cR
  rw [stS4 _ F rb hj h, upB_up]
theorem cf5 (S : Nat → Nat → Int32) {j : Nat} (hj : j < 3) (s : Nat → Int32) (F : Nat → Nat → Int32) (rb : Nat) : rv_ldFR (cR S j s F rb) (sp j) 1 4 = some (sa j 5) := lfS5 _ F rb hj
theorem cl5 (S : Nat → Nat → Int32) {j : Nat} (hj : j < 3) (s : Nat → Int32) (F : Nat → Nat → Int32) (rb : Nat) {k : Nat} (h : k < 8) : rv_ldI (cR S j s F rb) (sa j 5) (nI k) = some (s (54 + 4 * k + 2)) := by
  unfold cR
  rw [ldS5 _ F rb hj h, upA_s]
theorem ct5 (S : Nat → Nat → Int32) {j : Nat} (hj : j < 3) (s : Nat → Int32) (F : Nat → Nat → Int32) (rb : Nat) {k : Nat} (h : k < 8) (x : Int32) : rv_stI (cR S j s F rb) (sa j 5) (nI k) x = some (cR S j (upd s (54 + 4 * k + 2) x) F rb) := by
  unfold cR
  rw [stS5 _ F rb hj h, upB_up]
theorem cf6 (S : Nat → Nat → Int32) {j : Nat} (hj : j < 3) (s : Nat → Int32) (F : Nat → Nat → Int32) (rb : Nat) : rv_ldFR (cR S j s F rb) (sp j) 1 5 = some (sa j 6) := lfS6 _ F rb hj
theorem cl6 (S : Nat → Nat → Int32) {j : Nat} (hj : j < 3) (s : Nat → Int32) (F : Nat → Nat → Int32) (rb : Nat) {k : Nat} (h : k < 8) : rv_ldI (cR S j s F rb) (sa j 6) (nI k) = some (s (54 + 4 * k + 3)) := by
  unfold cR
  rw [ldS6 _ F rb hj h, upA_s]
theorem ct6 (S : Nat → Nat → Int32) {j : Nat} (hj : j < 3) (s : Nat → Int32) (F : Nat → Nat → Int32) (rb : Nat) {k : Nat} (h : k < 8) (x : Int32) : rv_stI (cR S j s F rb) (sa j 6) (nI k) x = some (cR S j (upd s (54 + 4 * k + 3) x) F rb) := by
  unfold cR
  rw [stS6 _ F rb hj h, upB_up]
theorem cf7 (S : Nat → Nat → Int32) {j : Nat} (hj : j < 3) (s : Nat → Int32) (F : Nat → Nat → Int32) (rb : Nat) : rv_ldFR (cR S j s F rb) (sp j) 1 6 = some (sa j 7) := lfS7 _ F rb hj
theorem cl7 (S : Nat → Nat → Int32) {j : Nat} (hj : j < 3) (s : Nat → Int32) (F : Nat → Nat → Int32) (rb : Nat) {k : Nat} (h : k < 10) : rv_ldI (cR S j s F rb) (sa j 7) (nI k) = some (s (86 + k)) := by
  unfold cR
  rw [ldS7 _ F rb hj h, upA_s]
theorem ct7 (S : Nat → Nat → Int32) {j : Nat} (hj : j < 3) (s : Nat → Int32) (F : Nat → Nat → Int32) (rb : Nat) {k : Nat} (h : k < 10) (x : Int32) : rv_stI (cR S j s F rb) (sa j 7) (nI k) x = some (cR S j (upd s (86 + k) x) F rb) := by
  unfold cR
  rw [stS7 _ F rb hj h, upB_up]
theorem cg7 (S : Nat → Nat → Int32) {j : Nat} (hj : j < 3) (s : Nat → Int32) (F : Nat → Nat → Int32) (rb : Nat) : rv_ldFI (cR S j s F rb) (sp j) 1 7 = some (s 0) := by
  unfold cR
  rw [lgS7 _ F rb hj, upA_s]
theorem ch7 (S : Nat → Nat → Int32) {j : Nat} (hj : j < 3) (s : Nat → Int32) (F : Nat → Nat → Int32) (rb : Nat) (x : Int32) : rv_stF (cR S j s F rb) (sp j) 1 7 (.int x) = some (cR S j (upd s 0 x) F rb) := by
  unfold cR
  rw [sgS7 _ F rb hj, upB_up]
theorem cg8 (S : Nat → Nat → Int32) {j : Nat} (hj : j < 3) (s : Nat → Int32) (F : Nat → Nat → Int32) (rb : Nat) : rv_ldFI (cR S j s F rb) (sp j) 1 8 = some (s 2) := by
  unfold cR
  rw [lgS8 _ F rb hj, upA_s]
theorem ch8 (S : Nat → Nat → Int32) {j : Nat} (hj : j < 3) (s : Nat → Int32) (F : Nat → Nat → Int32) (rb : Nat) (x : Int32) : rv_stF (cR S j s F rb) (sp j) 1 8 (.int x) = some (cR S j (upd s 2 x) F rb) := by
  unfold cR
  rw [sgS8 _ F rb hj, upB_up]
theorem cg9 (S : Nat → Nat → Int32) {j : Nat} (hj : j < 3) (s : Nat → Int32) (F : Nat → Nat → Int32) (rb : Nat) : rv_ldFI (cR S j s F rb) (sp j) 1 9 = some (s 1) := by
  unfold cR
  rw [lgS9 _ F rb hj, upA_s]
theorem ch9 (S : Nat → Nat → Int32) {j : Nat} (hj : j < 3) (s : Nat → Int32) (F : Nat → Nat → Int32) (rb : Nat) (x : Int32) : rv_stF (cR S j s F rb) (sp j) 1 9 (.int x) = some (cR S j (upd s 1 x) F rb) := by
  unfold cR
  rw [sgS9 _ F rb hj, upB_up]
theorem cg10 (S : Nat → Nat → Int32) {j : Nat} (hj : j < 3) (s : Nat → Int32) (F : Nat → Nat → Int32) (rb : Nat) : rv_ldFI (cR S j s F rb) (sp j) 1 10 = some (s 3) := by
  unfold cR
  rw [lgS10 _ F rb hj, upA_s]
theorem ch10 (S : Nat → Nat → Int32) {j : Nat} (hj : j < 3) (s : Nat → Int32) (F : Nat → Nat → Int32) (rb : Nat) (x : Int32) : rv_stF (cR S j s F rb) (sp j) 1 10 (.int x) = some (cR S j (upd s 3 x) F rb) := by
  unfold cR
  rw [sgS10 _ F rb hj, upB_up]
theorem cg11 (S : Nat → Nat → Int32) {j : Nat} (hj : j < 3) (s : Nat → Int32) (F : Nat → Nat → Int32) (rb : Nat) : rv_ldFI (cR S j s F rb) (sp j) 1 11 = some (s 96) := by
  unfold cR
  rw [lgS11 _ F rb hj, upA_s]
theorem ch11 (S : Nat → Nat → Int32) {j : Nat} (hj : j < 3) (s : Nat → Int32) (F : Nat → Nat → Int32) (rb : Nat) (x : Int32) : rv_stF (cR S j s F rb) (sp j) 1 11 (.int x) = some (cR S j (upd s 96 x) F rb) := by
  unfold cR
  rw [sgS11 _ F rb hj, upB_up]
theorem co (S : Nat → Nat → Int32) {j : Nat} (hj : j < 3) (s : Nat → Int32) (F : Nat → Nat → Int32) (rb : Nat) : (rv_obj (cR S j s F rb) (sp j) 1).isSome = true := obS _ F rb hj
end
section
/-! THE CLASS: an hour of a spa -/
theorem k_bit : ∀ k : Fin 256, ∀ w : rv_W, rv_EV 209 [.int (nI k.val)] w = some (some (.int (nI (popS k.val))), w) := by
  have h : ∀ k : Fin 256, ∃ x : Int32, x = nI (popS k.val) ∧ ∀ w : rv_W, rv_EV 209 [.int (nI k.val)] w = some (some (.int x), w) := by
    intro k
    refine ⟨_, ?_, fun w => ev_J6_bitCount_0f7a4 (nI k.val) w⟩
    revert k
    decide +kernel
  intro k w
  obtain ⟨x, h1, h2⟩ := h k
  rw [h2 w, h1]
theorem k_bitCount {k : Nat} (hk : k < 256) (w : rv_W) : rv_EV 209 [.int (nI k)] w = some (some (.int (nI (popS k))), w) := k_bit ⟨k, hk⟩ w
theorem k_cools {k : Nat} (hk : k < 7) (w : rv_W) : rv_EV 3 [.int (nI k)] w = some (some (.int (coolS k)), w) := by
  have hk' : k < 1000 := by omega
  rw [ev_X0_cools]
  simp only [cb_eq, cb_ne, cb_lt, cb_ge, cb_gt, cb_le, cb_q, cb_qL, ri_s, rl_s, rr_s, rv_s, Option.bind_some, i10, cond_true, cond_false, sw1 hk', sw2 hk', sw3 hk', sw4 hk', sw5 hk', sw6 hk']
  rcases (show k = 0 ∨ k = 1 ∨ k = 2 ∨ k = 3 ∨ k = 4 ∨ k = 5 ∨ k = 6 by omega) with rfl | rfl | rfl | rfl | rfl | rfl | rfl <;> simp [coolS]
theorem k_nose {k : Nat} (hk : k < 7) (w : rv_W) : rv_EV 4 [.int (nI k)] w = some (some (.int (noseS k)), w) := by
  have hk' : k < 1000 := by omega
  rw [ev_X0_nose]
  simp only [cb_eq, cb_ne, cb_lt, cb_ge, cb_gt, cb_le, cb_q, cb_qL, ri_s, rl_s, rr_s, rv_s, Option.bind_some, i10, cond_true, cond_false, sw2 hk', sw3 hk', sw4 hk', sw5 hk', sw6 hk']
  rcases (show k = 0 ∨ k = 1 ∨ k = 2 ∨ k = 3 ∨ k = 4 ∨ k = 5 ∨ k = 6 by omega) with rfl | rfl | rfl | rfl | rfl | rfl | rfl <;> simp [noseS]
theorem t4_ (t c : Nat) : (nI t * 4) + nI c = nI (t * 4 + c) := by
  rw [show (4 : Int32) = nI 4 from rfl, pk_mul, nI_add]
theorem k_scentIn (S : Nat → Nat → Int32) {j : Nat} (hj : j < 3) (s : Nat → Int32) (F : Nat → Nat → Int32) (rb : Nat) {t c : Nat} (ht : t < 10) (hc : c < 4) : rv_EV 15 [.ref (sp j), .int (nI t), .int (nI c)] (cR S j s F rb) = some (some (.int (s (14 + 4 * t + c))), cR S j s F rb) := by
  rw [ev_X2_scentIn _ _ _ _ (co S hj s F rb), t4_]
  simp only [cb_eq, cb_ne, cb_lt, cb_ge, cb_gt, cb_le, cb_q, cb_qL, ri_s, rl_s, rr_s, rv_s, Option.bind_some, i10, cond_true, cond_false, cf2 S hj, cl2 S hj s F rb (show t * 4 + c < 40 by omega), show 14 + (t * 4 + c) = 14 + 4 * t + c by omega]
theorem k_setScent (S : Nat → Nat → Int32) {j : Nat} (hj : j < 3) (s : Nat → Int32) (F : Nat → Nat → Int32) (rb : Nat) {t c : Nat} (ht : t < 10) (hc : c < 4) (x : Int32) : rv_EV 16 [.ref (sp j), .int (nI t), .int (nI c), .int x] (cR S j s F rb) = some (none, cR S j (upd s (14 + 4 * t + c) x) F rb) := by
  rw [ev_X2_setScent _ _ _ _ _ (co S hj s F rb), t4_]
  simp only [cb_eq, cb_ne, cb_lt, cb_ge, cb_gt, cb_le, cb_q, cb_qL, ri_s, rl_s, rr_s, rv_s, Option.bind_some, i10, cond_true, cond_false, cf2 S hj, ct2 S hj s F rb (show t * 4 + c < 40 by omega), show 14 + (t * 4 + c) = 14 + 4 * t + c by omega]
theorem k_scentsIn (S : Nat → Nat → Int32) {j : Nat} (hj : j < 3) (s : Nat → Int32) (F : Nat → Nat → Int32) (rb : Nat) {t : Nat} (ht : t < 10) : rv_EV 17 [.ref (sp j), .int (nI t)] (cR S j s F rb) = some (some (.int (allS s t)), cR S j s F rb) := by
  have st : ∀ (c : Nat) (v : Int32), c < 4 → rv_GO rc_X2_scentsIn 4 [some (.ref (sp j)), some (.int (nI t)), some (.int v), some (.int (nI c))] [] (cR S j s F rb) = rv_GO rc_X2_scentsIn 4 [some (.ref (sp j)), some (.int (nI t)), some (.int (v + s (14 + 4 * t + c))), some (.int (nI (c + 1)))] [] (cR S j s F rb) := by
    intro c v hc
    rw [bk_X2_scentsIn_4]
    simp only [cb_eq, cb_ne, cb_lt, cb_ge, cb_gt, cb_le, cb_q, cb_qL, ri_s, rl_s, rr_s, rv_s, Option.bind_some, i10, cond_true, cond_false, k_scentIn S hj s F rb ht hc, nI_1, show ¬ (4 : Int32) ≤ nI c from nI_ge (a := c) (b := 4) hc (by decide), if_false]
  rw [ev_X2_scentsIn _ _ _ (co S hj s F rb)]
  rw [show (0 : Int32) = nI 0 from rfl, st 0 _ (by decide), st 1 _ (by decide), st 2 _ (by decide), st 3 _ (by decide), bk_X2_scentsIn_4]
  simp only [cb_eq, cb_ne, cb_lt, cb_ge, cb_gt, cb_le, cb_q, cb_qL, ri_s, rl_s, rr_s, rv_s, Option.bind_some, i10, cond_true, cond_false, show (4 : Int32) ≤ nI (3 + 1) from by decide, if_true]
  rfl
def pulS (s : Nat → Int32) (t : Nat) : Nat → Int32 := fun i => if i = 4 + t ∨ (14 + 4 * t ≤ i ∧ i < 18 + 4 * t) then 0 else s i
theorem k_pullPlug (S : Nat → Nat → Int32) {j : Nat} (hj : j < 3) (s : Nat → Int32) (F : Nat → Nat → Int32) (rb : Nat) {t : Nat} (ht : t < 10) : rv_EV 18 [.ref (sp j), .int (nI t)] (cR S j s F rb) = some (none, cR S j (pulS s t) F rb) := by
  have st : ∀ (c : Nat) (q : Nat → Int32), c < 4 → rv_GO rc_X2_pullPlug 9 [some (.ref (sp j)), some (.int (nI t)), some (.int (nI c))] [] (cR S j q F rb) = rv_GO rc_X2_pullPlug 9 [some (.ref (sp j)), some (.int (nI t)), some (.int (nI (c + 1)))] [] (cR S j (upd q (14 + 4 * t + c) 0) F rb) := by
    intro c q hc
    rw [bk_X2_pullPlug_9]
    simp only [cb_eq, cb_ne, cb_lt, cb_ge, cb_gt, cb_le, cb_q, cb_qL, ri_s, rl_s, rr_s, rv_s, Option.bind_some, i10, cond_true, cond_false, k_setScent S hj q F rb ht hc, nI_1, show ¬ (4 : Int32) ≤ nI c from nI_ge (a := c) (b := 4) hc (by decide), if_false]
  rw [ev_X2_pullPlug _ _ _ (co S hj s F rb)]
  simp only [cb_eq, cb_ne, cb_lt, cb_ge, cb_gt, cb_le, cb_q, cb_qL, ri_s, rl_s, rr_s, rv_s, Option.bind_some, i10, cond_true, cond_false, cf1 S hj, ct1 S hj s F rb ht]
  have s0 := st 0 (upd s (4 + t) 0) (by decide)
  rw [nI_0] at s0
  rw [s0, st 1 _ (by decide), st 2 _ (by decide), st 3 _ (by decide), bk_X2_pullPlug_9]
  simp only [cb_eq, cb_ne, cb_lt, cb_ge, cb_gt, cb_le, cb_q, cb_qL, ri_s, rl_s, rr_s, rv_s, Option.bind_some, i10, cond_true, cond_false, show (4 : Int32) ≤ nI (3 + 1) from by decide, if_true]
  refine congrArg (fun w => some (none, w)) (cR_congr S j F rb fun i _ => ?_)
  simp only [pulS, upd]
  grind
def addK (k kn : Nat) (a b : Int32) : Int32 := match k with
  | 1 => 128
  | 2 => 32
  | 3 => 8
  | 4 => 8 + nI (popS kn)
  | 5 => if b = 0 then 64 else 0
  | 6 => 128 + a
  | _ => 64
theorem addS_K (s : Nat → Int32) (b : Nat) : addK (kdS s b) (knS s b) (s (4 + tbS s b)) (s (14 + 4 * tbS s b + owS s b)) = addS s b := by
  unfold addS addK
  generalize kdS s b = k
  rcases k with _ | _ | _ | _ | _ | _ | _ | k <;> rfl
theorem k_addsX {k kn : Nat} (hk : k < 7) (hn : kn < 16) (a b : Int32) (w : rv_W) : rv_EV 2 [.int (nI k), .int a, .int b, .int (nI kn)] w = some (some (.int (addK k kn a b)), w) := by
  have hk' : k < 1000 := by omega
  rw [ev_X0_adds]
  simp only [cb_eq, cb_ne, cb_lt, cb_ge, cb_gt, cb_le, cb_q, cb_qL, ri_s, rl_s, rr_s, rv_s, Option.bind_some, i10, cond_true, cond_false, sw1 hk', sw2 hk', sw3 hk', sw4 hk', sw5 hk', sw6 hk', k_bitCount (show kn < 256 by omega)]
  rcases (show k = 0 ∨ k = 1 ∨ k = 2 ∨ k = 3 ∨ k = 4 ∨ k = 5 ∨ k = 6 by omega) with rfl | rfl | rfl | rfl | rfl | rfl | rfl
  case inr.inr.inr.inr.inr.inl =>
    by_cases h : b = 0 <;> simp [h, addK]
  all_goals simp [addK]
theorem k_addsOf (S : Nat → Nat → Int32) {j : Nat} (hj : j < 3) (s : Nat → Int32) (F : Nat → Nat → Int32) (rb : Nat) {b : Nat} (hb : b < 8) (ok : okB s b) : rv_EV 26 [.ref (sp j), .int (nI b)] (cR S j s F rb) = some (some (.int (addS s b)), cR S j s F rb) := by
  obtain ⟨⟨k1, k2⟩, ⟨t1, t2⟩, ⟨o1, o2⟩, ⟨n1, n2⟩⟩ := ok
  rw [ev_X2_addsOf _ _ _ (co S hj s F rb)]
  simp only [cb_eq, cb_ne, cb_lt, cb_ge, cb_gt, cb_le, cb_q, cb_qL, ri_s, rl_s, rr_s, rv_s, Option.bind_some, i10, cond_true, cond_false, cf1 S hj, cf3 S hj, cf4 S hj, cf5 S hj, cf6 S hj, cl3 S hj s F rb hb, cl4 S hj s F rb hb, cl5 S hj s F rb hb, cl6 S hj s F rb hb, k1, t1, o1, n1, cl1 S hj s F rb t2, k_scentIn S hj s F rb t2 o2, k_addsX k2 n2, addS_K]
theorem k_smelledBy (S : Nat → Nat → Int32) {j : Nat} (hj : j < 3) (s : Nat → Int32) (F : Nat → Nat → Int32) (rb : Nat) {b : Nat} (hb : b < 8) (ok : okB s b) : rv_EV 27 [.ref (sp j), .int (nI b)] (cR S j s F rb) = some (some (.int (smlS s b 4)), cR S j s F rb) := by
  obtain ⟨⟨k1, k2⟩, ⟨t1, t2⟩, ⟨o1, o2⟩, ⟨n1, n2⟩⟩ := ok
  have st : ∀ (c : Nat), c < 4 → rv_GO rc_X2_smelledBy 30 [some (.ref (sp j)), some (.int (nI b)), some (.int (nI (tbS s b))), some (.int (noseS (kdS s b))), some (.int (allS s (tbS s b))), some (.int (smlS s b c)), some (.int (nI c)), none, none] [] (cR S j s F rb) = rv_GO rc_X2_smelledBy 30 [some (.ref (sp j)), some (.int (nI b)), some (.int (nI (tbS s b))), some (.int (noseS (kdS s b))), some (.int (allS s (tbS s b))), some (.int (smlS s b (c + 1))), some (.int (nI (c + 1))), none, none] [] (cR S j s F rb) := by
    intro c hc
    rw [bk_X2_smelledBy_30]
    simp only [cb_eq, cb_ne, cb_lt, cb_ge, cb_gt, cb_le, cb_q, cb_qL, ri_s, rl_s, rr_s, rv_s, Option.bind_some, i10, cond_true, cond_false, k_scentIn S hj s F rb t2 hc, cf5 S hj, cl5 S hj s F rb hb, o1, nI_1, show ¬ (4 : Int32) ≤ nI c from nI_ge (a := c) (b := 4) hc (by decide), if_false, nI_eq (show c < 2 ^ 31 by omega) (show owS s b < 2 ^ 31 by omega), d8_0]
    rw [smlS]
    by_cases h1 : c = owS s b
    · rw [if_pos h1, if_neg (fun q => q.1 h1), or_0]
    · rw [if_neg h1]
      by_cases h2 : s (14 + 4 * tbS s b + c) < noseS (kdS s b) + (allS s (tbS s b) - s (14 + 4 * tbS s b + c)) / 8
      · rw [if_pos h2, if_neg (fun q => absurd h2 (Int32.not_lt.mpr q.2)), or_0]
      · rw [if_neg h2, if_pos ⟨h1, Int32.not_lt.mp h2⟩]
  rw [ev_X2_smelledBy _ _ _ (co S hj s F rb)]
  simp only [cb_eq, cb_ne, cb_lt, cb_ge, cb_gt, cb_le, cb_q, cb_qL, ri_s, rl_s, rr_s, rv_s, Option.bind_some, i10, cond_true, cond_false, cf4 S hj, cf3 S hj, cl4 S hj s F rb hb, cl3 S hj s F rb hb, t1, k1, k_nose k2, k_scentsIn S hj s F rb t2]
  have s0 := st 0 (by decide)
  rw [show smlS s b 0 = 0 from rfl, nI_0] at s0
  rw [s0, st 1 (by decide), st 2 (by decide), st 3 (by decide), bk_X2_smelledBy_30]
  simp only [cb_eq, cb_ne, cb_lt, cb_ge, cb_gt, cb_le, cb_q, cb_qL, ri_s, rl_s, rr_s, rv_s, Option.bind_some, i10, cond_true, cond_false, show (4 : Int32) ≤ nI (3 + 1) from by decide, if_true]
theorem k_isHere (S : Nat → Nat → Int32) {j : Nat} (hj : j < 3) (s : Nat → Int32) (F : Nat → Nat → Int32) (rb : Nat) (b : Int32) : rv_EV 24 [.ref (sp j), .int b] (cR S j s F rb) = some (some (.int (if (s 96 >>> (b &&& 31)) &&& 1 = 0 then 1 else 0)), cR S j s F rb) := by
  rw [ev_X2_isHere _ _ _ (co S hj s F rb)]
  simp only [cb_eq, cb_ne, cb_lt, cb_ge, cb_gt, cb_le, cb_q, cb_qL, ri_s, rl_s, rr_s, rv_s, Option.bind_some, i10, cond_true, cond_false, cg11 S hj]
  by_cases h : (s 96 >>> (b &&& 31)) &&& 1 = 0
  · simp only [h, if_true]
  · simp only [h, if_false]
theorem max_cool {x c : Int32} (hx : 0 ≤ x) (hc : 0 ≤ c) : rv_max (x - c) 0 = if x < c then 0 else x - c := by
  have h1 : (x - c).toInt = x.toInt - c.toInt := by
    have a1 := Int32.le_iff_toInt_le.mp hx
    have a2 := Int32.le_iff_toInt_le.mp hc
    have a3 := Int32.toInt_lt x
    have a4 := Int32.toInt_lt c
    rw [Int32.toInt_sub]
    rw [show (0 : Int32).toInt = 0 from rfl] at a1 a2
    apply Int.bmod_eq_of_le <;> omega
  unfold rv_max
  by_cases h : x < c
  · have h2 : x - c < 0 := by
      rw [Int32.lt_iff_toInt_lt, h1]
      have := Int32.lt_iff_toInt_lt.mp h
      show _ < (0 : Int)
      omega
    rw [if_pos h2, if_pos h]
  · have h2 : ¬ x - c < 0 := by
      rw [Int32.lt_iff_toInt_lt, h1]
      have := Int32.le_iff_toInt_le.mp (Int32.not_lt.mp h)
      show ¬ _ < (0 : Int)
      omega
    rw [if_neg h2, if_neg h]
theorem coolS_nn (k : Nat) : 0 ≤ coolS k := by
  unfold coolS
  split <;> decide
theorem k_bathe (S : Nat → Nat → Int32) {j : Nat} (hj : j < 3) (s : Nat → Int32) (F : Nat → Nat → Int32) (rb : Nat) {b : Nat} (hb : b < 8) (ok : okB s b) (hw : 0 ≤ s (4 + tbS s b)) : rv_EV 25 [.ref (sp j), .int (nI b)] (cR S j s F rb) = some (none, cR S j (batS s b) F rb) := by
  have okc : okB (coldS s b) b := (okB_congr (fun i h1 _ => coldS_out ok (by omega))).1 ok
  have hadd := k_addsOf S hj (coldS s b) F rb hb okc
  obtain ⟨⟨k1, k2⟩, ⟨t1, t2⟩, ⟨o1, o2⟩, ⟨n1, n2⟩⟩ := ok
  rw [ev_X2_bathe _ _ _ (co S hj s F rb)]
  simp only [cb_eq, cb_ne, cb_lt, cb_ge, cb_gt, cb_le, cb_q, cb_qL, ri_s, rl_s, rr_s, rv_s, Option.bind_some, i10, cond_true, cond_false, cf1 S hj, cf3 S hj, cf4 S hj, cf5 S hj, cl3 S hj s F rb hb, cl4 S hj s F rb hb, cl5 S hj s F rb hb, k1, t1, o1, cl1 S hj s F rb t2, k_cools k2, ct1 S hj s F rb t2, max_cool hw (coolS_nn _)]
  rw [show upd s (4 + tbS s b) (if s (4 + tbS s b) < coolS (kdS s b) then 0 else s (4 + tbS s b) - coolS (kdS s b)) = coldS s b from rfl]
  simp only [cb_eq, cb_ne, cb_lt, cb_ge, cb_gt, cb_le, cb_q, cb_qL, ri_s, rl_s, rr_s, rv_s, Option.bind_some, i10, cond_true, cond_false, k_scentIn S hj (coldS s b) F rb t2 o2, hadd, k_setScent S hj (coldS s b) F rb t2 o2]
  rfl
/-! water -/
def wS (q : Nat → Int32) (t : Nat) : Nat → Int32 := fun i => if 4 < i ∧ i ≤ 4 + t then (if q (i - 1) - 4 < 0 then 0 else q (i - 1) - 4) else q i
theorem max_0 (x : Int32) : rv_max x 0 = if x < 0 then 0 else x := rfl
theorem k_w1 (S : Nat → Nat → Int32) {j : Nat} (hj : j < 3) (s : Nat → Int32) (F : Nat → Nat → Int32) (rb : Nat) : ∀ (t : Nat) (q : Nat → Int32), t < 10 → rv_GO rc_X2_letWaterDown 3 [some (.ref (sp j)), some (.int (nI t))] [] (cR S j q F rb) = rv_GO rc_X2_letWaterDown 36 [some (.ref (sp j)), some (.int 39)] [] (cR S j (wS q t) F rb) := by
  intro t
  induction t with
  | zero =>
    intro q _
    rw [bk_X2_letWaterDown_3]
    simp only [cb_eq, cb_ne, cb_lt, cb_ge, cb_gt, cb_le, cb_q, cb_qL, ri_s, rl_s, rr_s, rv_s, Option.bind_some, i10, cond_true, cond_false, show nI 0 ≤ 0 from by decide, if_true]
    refine congrArg _ (cR_congr S j F rb fun i _ => ?_)
    simp only [wS]
    grind
  | succ t ih =>
    intro q ht
    rw [bk_X2_letWaterDown_3]
    simp only [cb_eq, cb_ne, cb_lt, cb_ge, cb_gt, cb_le, cb_q, cb_qL, ri_s, rl_s, rr_s, rv_s, Option.bind_some, i10, cond_true, cond_false, nI_nle (show 0 < t + 1 by omega) (show t + 1 < 2 ^ 31 by omega), if_false, cf1 S hj, nI_pred, cl1 S hj q F rb (show t < 10 by omega), ct1 S hj q F rb ht, pk_m1, max_0]
    rw [ih _ (by omega)]
    refine congrArg _ (cR_congr S j F rb fun i _ => ?_)
    simp only [wS, upd]
    grind
def cS (q : Nat → Int32) (k : Nat) : Nat → Int32 := fun i => if 18 ≤ i ∧ i < 15 + k then q (i - 4) * 3 / 4 else q i
theorem k_step (x : Int32) (w : rv_W) : rv_EV 22 [.int x] w = some (some (.int (x * 3 / 4)), w) := by
  rw [ev_X2_stepFurther]
  simp only [cb_eq, cb_ne, cb_lt, cb_ge, cb_gt, cb_le, cb_q, cb_qL, ri_s, rl_s, rr_s, rv_s, Option.bind_some, i10, cond_true, cond_false, d4_0, if_false]
theorem k_w2 (S : Nat → Nat → Int32) {j : Nat} (hj : j < 3) (s : Nat → Int32) (F : Nat → Nat → Int32) (rb : Nat) : ∀ (d : Nat) (q : Nat → Int32), d < 37 → rv_GO rc_X2_letWaterDown 36 [some (.ref (sp j)), some (.int (nI (3 + d)))] [] (cR S j q F rb) = rv_GO rc_X2_letWaterDown 36 [some (.ref (sp j)), some (.int 3)] [] (cR S j (cS q (3 + d)) F rb) := by
  intro d
  induction d with
  | zero =>
    intro q _
    rw [show nI (3 + 0) = 3 from rfl]
    refine congrArg _ (cR_congr S j F rb fun i _ => ?_)
    simp only [cS]
    grind
  | succ d ih =>
    intro q hd
    have e1 : nI (3 + (d + 1)) - 4 = nI d := by
      have := pk_sub (a := 3 + (d + 1)) (b := 4) (by omega)
      rwa [show 3 + (d + 1) - 4 = d by omega] at this
    have e2 : nI (3 + (d + 1)) + (-1) = nI (3 + d) := pk_m1 (3 + d)
    rw [bk_X2_letWaterDown_36]
    simp only [cb_eq, cb_ne, cb_lt, cb_ge, cb_gt, cb_le, cb_q, cb_qL, ri_s, rl_s, rr_s, rv_s, Option.bind_some, i10, cond_true, cond_false, show ¬ nI (3 + (d + 1)) < 4 from nI_nlt (a := 3 + (d + 1)) (b := 4) (by omega) (by omega), if_false, cf2 S hj, e1, e2, cl2 S hj q F rb (show d < 40 by omega), k_step, ct2 S hj q F rb (show 3 + (d + 1) < 40 by omega)]
    rw [ih _ (by omega)]
    refine congrArg _ (cR_congr S j F rb fun i _ => ?_)
    simp only [cS, upd]
    grind
theorem k_letWaterDown (S : Nat → Nat → Int32) {j : Nat} (hj : j < 3) (s : Nat → Int32) (F : Nat → Nat → Int32) (rb : Nat) : rv_EV 23 [.ref (sp j)] (cR S j s F rb) = some (none, cR S j (flwS s) F rb) := by
  rw [ev_X2_letWaterDown _ _ (co S hj s F rb)]
  have h1 := k_w1 S hj s F rb 9 s (by decide)
  rw [show nI 9 = 9 from rfl] at h1
  have h2 := k_w2 S hj s F rb 36 (wS s 9) (by decide)
  rw [show nI (3 + 36) = 39 from rfl] at h2
  rw [h1, h2, bk_X2_letWaterDown_36]
  have hp := k_pullPlug S hj (cS (wS s 9) (3 + 36)) F rb (t := 0) (by decide)
  rw [nI_0] at hp
  have ht := ct1 S hj (pulS (cS (wS s 9) (3 + 36)) 0) F rb (k := 0) (by decide)
  rw [nI_0] at ht
  simp only [cb_eq, cb_ne, cb_lt, cb_ge, cb_gt, cb_le, cb_q, cb_qL, ri_s, rl_s, rr_s, rv_s, Option.bind_some, i10, cond_true, cond_false, show (3 : Int32) < 4 from by decide, if_true, hp, cf1 S hj, cg8 S hj, ht]
  refine congrArg (fun w => some (none, w)) (cR_congr S j F rb fun i _ => ?_)
  simp only [flwS, pulS, cS, wS, upd]
  grind
end
section
/-! THE CLASS: hours of a spa -/
def wOK (s : Nat → Int32) : Prop := 0 ≤ s 2 ∧ ∀ t, t < 10 → 0 ≤ s (4 + t)
theorem nn_max (x : Int32) : 0 ≤ rv_max x 0 := by
  unfold rv_max
  split
  · decide
  · exact Int32.not_lt.mp (by assumption)
theorem wOK_flw {s : Nat → Int32} (h : wOK s) : wOK (flwS s) := by
  refine ⟨by rw [flwS_out s (by omega)]; exact h.1, fun t ht => ?_⟩
  unfold flwS
  by_cases h0 : 4 + t = 4
  · rw [if_pos h0]; exact h.1
  · rw [if_neg h0, if_pos (by omega)]
    exact nn_max (s (4 + t - 1) - 4)
theorem wOK_bat {s : Nat → Int32} {b : Nat} (ok : okB s b) (h : wOK s) : wOK (batS s b) := by
  refine ⟨by rw [batS_out ok (by omega)]; exact h.1, fun t ht => ?_⟩
  obtain ⟨-, ⟨-, t2⟩, -⟩ := ok
  unfold batS
  rw [pk_un (by omega)]
  unfold coldS
  by_cases e : 4 + t = 4 + tbS s b
  · rw [e, pk_us, ← max_cool (h.2 _ t2) (coolS_nn _)]
    exact nn_max _
  · rw [pk_un e]; exact h.2 t ht
theorem wOK_bats {gone : Int32} {s : Nat → Int32} (h : wOK s) : ∀ n, okN s n → wOK (batsS gone s n)
  | 0, _ => h
  | n + 1, ok => by
    have ih := wOK_bats (gone := gone) h n (fun b hb => ok b (by omega))
    have ho := batsS_out (gone := gone) (s := s) n (fun b hb => ok b (by omega))
    rw [batsS]
    split
    · exact wOK_bat ((okB_congr (fun i h1 _ => ho i (by omega))).1 (ok n (by omega))) ih
    · exact ih
theorem wOK_hour {gone : Int32} {s : Nat → Int32} {n : Nat} (hn : n ≤ 8) (hs : s 0 = nI n) (ok : okN s n) (h : wOK s) : wOK (hourS gone s) := by
  have okf : okN (flwS s) n := fun b hb => (okB_congr (fun i h1 _ => flwS_out s (by omega))).1 (ok b hb)
  have hb := wOK_bats (gone := gone) (wOK_flw h) n okf
  unfold hourS
  rw [show (s 0).toNatClampNeg = n by rw [hs]; exact nI_clamp (by omega)]
  refine ⟨?_, fun t ht => ?_⟩
  · rw [pk_un (by omega), knoS_out n 2 (fun _ _ => by omega)]; exact hb.1
  · rw [pk_un (by omega), knoS_out n (4 + t) (fun _ _ => by omega)]; exact hb.2 t ht
theorem k_bat (S : Nat → Nat → Int32) {j : Nat} (hj : j < 3) (s : Nat → Int32) (F : Nat → Nat → Int32) (rb : Nat) {n b : Nat} (hn : n ≤ 8) (hs : s 0 = nI n) (hb : b < n) (ok : okB s b) (hw : wOK s) :
    rv_GO rc_X2_passHour 6 [some (.ref (sp j)), some (.int (nI b))] [] (cR S j s F rb) = rv_GO rc_X2_passHour 6 [some (.ref (sp j)), some (.int (nI (b + 1)))] [] (cR S j (if (s 96 >>> (nI b &&& 31)) &&& 1 = 0 then batS s b else s) F rb) := by
  have t2 := ok.2.1.2
  rw [bk_X2_passHour_6]
  simp only [cb_eq, cb_ne, cb_lt, cb_ge, cb_gt, cb_le, cb_q, cb_qL, ri_s, rl_s, rr_s, rv_s, Option.bind_some, i10, cond_true, cond_false, cg7 S hj, hs, ge0_8 hn hb, if_false, k_isHere S hj s F rb, k_bathe S hj s F rb (show b < 8 by omega) ok (hw.2 _ t2), nI_1]
  by_cases h : (s 96 >>> (nI b &&& 31)) &&& 1 = 0
  · simp only [h, if_true, not_true_eq_false, if_false]
  · simp only [h, if_false, not_false_eq_true, if_true]
theorem k_bats (S : Nat → Nat → Int32) {j : Nat} (hj : j < 3) (s : Nat → Int32) (F : Nat → Nat → Int32) (rb : Nat) {n : Nat} (hn : n ≤ 8) (hs : s 0 = nI n) (ok : okN s n) (hw : wOK s) : ∀ b, b ≤ n →
    rv_GO rc_X2_passHour 6 [some (.ref (sp j)), some (.int 0)] [] (cR S j s F rb) = rv_GO rc_X2_passHour 6 [some (.ref (sp j)), some (.int (nI b))] [] (cR S j (batsS (s 96) s b) F rb) := by
  intro b
  induction b with
  | zero => intro _; rfl
  | succ b ih =>
    intro hb
    have ho := batsS_out (gone := s 96) (s := s) b (fun c hc => ok c (by omega))
    rw [ih (by omega), k_bat S hj (batsS (s 96) s b) F rb hn (by rw [ho 0 (by omega)]; exact hs) (by omega) ((okB_congr (fun i h1 _ => ho i (by omega))).1 (ok b (by omega))) (wOK_bats hw b (fun c hc => ok c (by omega))), ho 96 (by omega)]
    rfl
theorem k_kno (S : Nat → Nat → Int32) {j : Nat} (hj : j < 3) (s : Nat → Int32) (F : Nat → Nat → Int32) (rb : Nat) {n b : Nat} (hn : n ≤ 8) (hs : s 0 = nI n) (hb : b < n) (ok : okB s b) :
    rv_GO rc_X2_passHour 35 [some (.ref (sp j)), some (.int (nI b))] [] (cR S j s F rb) = rv_GO rc_X2_passHour 35 [some (.ref (sp j)), some (.int (nI (b + 1)))] [] (cR S j (if (s 96 >>> (nI b &&& 31)) &&& 1 = 0 then upd s (54 + 4 * b + 3) (s (54 + 4 * b + 3) ||| smlS s b 4) else s) F rb) := by
  have hb8 : b < 8 := by omega
  rw [bk_X2_passHour_35]
  simp only [cb_eq, cb_ne, cb_lt, cb_ge, cb_gt, cb_le, cb_q, cb_qL, ri_s, rl_s, rr_s, rv_s, Option.bind_some, i10, cond_true, cond_false, cg7 S hj, hs, ge0_8 hn hb, if_false, k_isHere S hj s F rb, nI_1, cf6 S hj, cl6 S hj s F rb hb8, k_smelledBy S hj s F rb hb8 ok, ct6 S hj s F rb hb8]
  by_cases h : (s 96 >>> (nI b &&& 31)) &&& 1 = 0
  · simp only [h, if_true, not_true_eq_false, if_false]
  · simp only [h, if_false, not_false_eq_true, if_true]
theorem k_knos (S : Nat → Nat → Int32) {j : Nat} (hj : j < 3) (s : Nat → Int32) (F : Nat → Nat → Int32) (rb : Nat) {n : Nat} (hn : n ≤ 8) (hs : s 0 = nI n) (ok : okN s n) : ∀ b, b ≤ n →
    rv_GO rc_X2_passHour 35 [some (.ref (sp j)), some (.int 0)] [] (cR S j s F rb) = rv_GO rc_X2_passHour 35 [some (.ref (sp j)), some (.int (nI b))] [] (cR S j (knoS (s 96) s b) F rb) := by
  intro b
  induction b with
  | zero => intro _; rfl
  | succ b ih =>
    intro hb
    rw [ih (by omega), k_kno S hj (knoS (s 96) s b) F rb hn (by rw [knoS_out b 0 (fun _ _ => by omega)]; exact hs) (by omega) (knoS_ok (ok b (by omega))), knoS_out b 96 (fun _ _ => by omega)]
    rfl
theorem min_hour {x : Int32} (h : x ≤ 99999) : rv_min x 99999 = x := by
  unfold rv_min
  by_cases e : 99999 < x
  · exact absurd e (Int32.not_lt.mpr h)
  · rw [if_neg e]
theorem k_passHour (S : Nat → Nat → Int32) {j : Nat} (hj : j < 3) (s : Nat → Int32) (F : Nat → Nat → Int32) (rb : Nat) {n : Nat} (hn : n ≤ 8) (hs : s 0 = nI n) (ok : okN s n) (hw : wOK s) (hh : s 1 + 1 ≤ 99999) : rv_EV 21 [.ref (sp j)] (cR S j s F rb) = some (none, cR S j (hourS (s 96) s) F rb) := by
  have okf : okN (flwS s) n := fun b hb => (okB_congr (fun i h1 _ => flwS_out s (by omega))).1 (ok b hb)
  have hb := batsS_out (gone := s 96) (s := flwS s) n okf
  have okb : okN (batsS (s 96) (flwS s) n) n := fun b hb' => (okB_congr (fun i h1 _ => hb i (by omega))).1 (okf b hb')
  have g1 : flwS s 96 = s 96 := flwS_out s (by omega)
  have hs1 : flwS s 0 = nI n := by rw [flwS_out s (by omega)]; exact hs
  have hs2 : batsS (s 96) (flwS s) n 0 = nI n := by rw [hb 0 (by omega)]; exact hs1
  have g2 : batsS (s 96) (flwS s) n 96 = s 96 := by rw [hb 96 (by omega)]; exact g1
  have hs3 : knoS (s 96) (batsS (s 96) (flwS s) n) n 0 = nI n := by rw [knoS_out n 0 (fun _ _ => by omega)]; exact hs2
  have hs4 : knoS (s 96) (batsS (s 96) (flwS s) n) n 1 = s 1 := by rw [knoS_out n 1 (fun _ _ => by omega), hb 1 (by omega), flwS_out s (by omega)]
  have hc : (s 0).toNatClampNeg = n := by rw [hs]; exact nI_clamp (by omega)
  rw [ev_X2_passHour _ _ (co S hj s F rb), k_letWaterDown S hj s F rb]
  simp only [cb_eq, cb_ne, cb_lt, cb_ge, cb_gt, cb_le, cb_q, cb_qL, ri_s, rl_s, rr_s, rv_s, Option.bind_some, i10, cond_true, cond_false]
  have k1 := k_bats S hj (flwS s) F rb hn hs1 okf (wOK_flw hw) n (Nat.le_refl n)
  rw [g1] at k1
  rw [k1, bk_X2_passHour_6]
  simp only [cb_eq, cb_ne, cb_lt, cb_ge, cb_gt, cb_le, cb_q, cb_qL, ri_s, rl_s, rr_s, rv_s, Option.bind_some, i10, cond_true, cond_false, cg7 S hj, hs2, Int32.le_refl, if_true]
  have k2 := k_knos S hj (batsS (s 96) (flwS s) n) F rb hn hs2 okb n (Nat.le_refl n)
  rw [g2] at k2
  rw [k2, bk_X2_passHour_35]
  simp only [cb_eq, cb_ne, cb_lt, cb_ge, cb_gt, cb_le, cb_q, cb_qL, ri_s, rl_s, rr_s, rv_s, Option.bind_some, i10, cond_true, cond_false, cg7 S hj, hs3, Int32.le_refl, if_true, cg9 S hj, hs4, ch9 S hj, min_hour hh]
  unfold hourS
  rw [hc]
theorem hourS_1 {gone : Int32} (s : Nat → Int32) : hourS gone s 1 = s 1 + 1 := by
  unfold hourS
  rw [pk_us]
theorem hoursS_1 {gone : Int32} {s : Nat → Int32} {h : Nat} (hs : s 1 = nI h) : ∀ k, hoursS gone s k 1 = nI (h + k)
  | 0 => hs
  | k + 1 => by rw [hoursS, hourS_1, hoursS_1 hs k, nI_1]; rfl
theorem hoursS_96 {gone : Int32} {s : Nat → Int32} {n : Nat} (hn : n ≤ 8) (hs : s 0 = nI n) (ok : okN s n) : ∀ k, hoursS gone s k 96 = s 96
  | 0 => rfl
  | k + 1 => by
    obtain ⟨h1, h2⟩ := hoursS_ok (gone := gone) hn hs ok k
    rw [hoursS, hourS_out hn h2 h1 (by omega) (fun _ _ => by omega), hoursS_96 hn hs ok k]
theorem hoursS_w {gone : Int32} {s : Nat → Int32} {n : Nat} (hn : n ≤ 8) (hs : s 0 = nI n) (ok : okN s n) (hw : wOK s) : ∀ k, wOK (hoursS gone s k)
  | 0 => hw
  | k + 1 => by
    obtain ⟨h1, h2⟩ := hoursS_ok (gone := gone) hn hs ok k
    exact wOK_hour hn h2 h1 (hoursS_w hn hs ok hw k)
theorem k_passHours (S : Nat → Nat → Int32) {j : Nat} (hj : j < 3) (s : Nat → Int32) (F : Nat → Nat → Int32) (rb : Nat) {n : Nat} (hn : n ≤ 8) (hs : s 0 = nI n) (ok : okN s n) (hw : wOK s) {h : Nat} (hh : s 1 = nI h) {k : Nat} (hk : h + k ≤ 99999) : rv_EV 20 [.ref (sp j), .int (nI k)] (cR S j s F rb) = some (none, cR S j (hoursS (s 96) s k) F rb) := by
  have st : ∀ i, i ≤ k → rv_GO rc_X2_passHours 2 [some (.ref (sp j)), some (.int (nI k)), some (.int 0)] [] (cR S j s F rb) = rv_GO rc_X2_passHours 2 [some (.ref (sp j)), some (.int (nI k)), some (.int (nI i))] [] (cR S j (hoursS (s 96) s i) F rb) := by
    intro i
    induction i with
    | zero => intro _; rfl
    | succ i ih =>
      intro hi
      obtain ⟨h1, h2⟩ := hoursS_ok (gone := s 96) hn hs ok i
      have hp := k_passHour S hj (hoursS (s 96) s i) F rb hn h2 h1 (hoursS_w hn hs ok hw i) (by rw [hoursS_1 hh i, nI_1]; exact nI_le (a := h + i + 1) (b := 99999) (by omega) (by decide))
      rw [hoursS_96 hn hs ok i] at hp
      rw [ih (by omega), bk_X2_passHours_2]
      simp only [cb_eq, cb_ne, cb_lt, cb_ge, cb_gt, cb_le, cb_q, cb_qL, ri_s, rl_s, rr_s, rv_s, Option.bind_some, i10, cond_true, cond_false, nI_ge (show i < k by omega) (by omega), if_false, hp, nI_1]
      rfl
  rw [ev_X2_passHours _ _ _ (co S hj s F rb), st k (Nat.le_refl k), bk_X2_passHours_2]
  simp only [cb_eq, cb_ne, cb_lt, cb_ge, cb_gt, cb_le, cb_q, cb_qL, ri_s, rl_s, rr_s, rv_s, Option.bind_some, i10, cond_true, cond_false, Int32.le_refl, if_true]
/-! taking over another spa -/
theorem cpy_at {w : rv_W} {a d n : Nat} {f g : Nat → Int32} (ha : w[a]? = some (.inl (0, .inl (rv_tab n f)))) (hd : w[d]? = some (.inl (0, .inl (rv_tab n g)))) (hn : n < 2 ^ 31) : rv_cpy w a 0 d 0 (nI n) = some (w.set d (.inl (0, .inl (rv_tab n f)))) := by
  unfold rv_cpy rv_ints
  rw [ha, hd]
  simp only [Option.bind_some, rv_tab_len, nI_clamp hn, show (0 : Int32).toNatClampNeg = 0 from rfl, Nat.zero_add, Nat.le_refl, show (0 : Int32) ≤ 0 from by decide, nI_pos' hn, and_self, if_true]
  congr 5
  apply rv_tab_congr
  intro i hi
  rw [pk_cpy_in (Nat.zero_le _) (by omega), rv_getD_tab n f (by omega)]
  congr 1
  omega
end
section
/-! ONE SPA TAKEN OVER -/
def mix1 (s q : Nat → Int32) : Nat → Int32 := fun i => if 4 ≤ i ∧ i < 14 then q i else s i
theorem spC_m1 (b : Nat) (s q : Nat → Int32) : spC b (mix1 s q) = [.inr (1, [.ref (b + 1), .ref (b + 2), .ref (b + 3), .ref (b + 4), .ref (b + 5), .ref (b + 6), .ref (b + 7), .int (s 0), .int (s 2), .int (s 1), .int (s 3), .int (s 96)]), .inl (0, .inl (rv_tab 10 (fun k => q (4 + k)))), .inl (0, .inl (rv_tab 40 (fun k => s (14 + k)))), .inl (0, .inl (rv_tab 8 (fun k => s (54 + 4 * k + 0)))), .inl (0, .inl (rv_tab 8 (fun k => s (54 + 4 * k + 1)))), .inl (0, .inl (rv_tab 8 (fun k => s (54 + 4 * k + 2)))), .inl (0, .inl (rv_tab 8 (fun k => s (54 + 4 * k + 3)))), .inl (0, .inl (rv_tab 10 (fun k => s (86 + k))))] := by
  have f0 : mix1 s q 0 = s 0 := by simp only [mix1]; grind
  have f2 : mix1 s q 2 = s 2 := by simp only [mix1]; grind
  have f1 : mix1 s q 1 = s 1 := by simp only [mix1]; grind
  have f3 : mix1 s q 3 = s 3 := by simp only [mix1]; grind
  have f96 : mix1 s q 96 = s 96 := by simp only [mix1]; grind
  have a1 : rv_tab 10 (fun k => mix1 s q (4 + k)) = rv_tab 10 (fun k => q (4 + k)) := rv_tab_congr (fun k hk => by simp only [mix1]; grind)
  have a2 : rv_tab 40 (fun k => mix1 s q (14 + k)) = rv_tab 40 (fun k => s (14 + k)) := rv_tab_congr (fun k hk => by simp only [mix1]; grind)
  have a3 : rv_tab 8 (fun k => mix1 s q (54 + 4 * k + 0)) = rv_tab 8 (fun k => s (54 + 4 * k + 0)) := rv_tab_congr (fun k hk => by simp only [mix1]; grind)
  have a4 : rv_tab 8 (fun k => mix1 s q (54 + 4 * k + 1)) = rv_tab 8 (fun k => s (54 + 4 * k + 1)) := rv_tab_congr (fun k hk => by simp only [mix1]; grind)
  have a5 : rv_tab 8 (fun k => mix1 s q (54 + 4 * k + 2)) = rv_tab 8 (fun k => s (54 + 4 * k + 2)) := rv_tab_congr (fun k hk => by simp only [mix1]; grind)
  have a6 : rv_tab 8 (fun k => mix1 s q (54 + 4 * k + 3)) = rv_tab 8 (fun k => s (54 + 4 * k + 3)) := rv_tab_congr (fun k hk => by simp only [mix1]; grind)
  have a7 : rv_tab 10 (fun k => mix1 s q (86 + k)) = rv_tab 10 (fun k => s (86 + k)) := rv_tab_congr (fun k hk => by simp only [mix1]; grind)
  unfold spC
  rw [f0, f2, f1, f3, f96, a1, a2, a3, a4, a5, a6, a7]
theorem setM1 (S F : Nat → Nat → Int32) (rb : Nat) {j : Nat} (hj : j < 3) (q : Nat → Int32) : (mC S F rb).set (sa j 1) (.inl (0, .inl (rv_tab 10 (fun k => q (4 + k))))) = mC (upA S j (mix1 (S j) q)) F rb := by
  refine lt3 (P := fun j => (mC S F rb).set (sa j 1) (.inl (0, .inl (rv_tab 10 (fun k => q (4 + k))))) = mC (upA S j (mix1 (S j) q)) F rb) ?_ ?_ ?_ hj
  · show _ = _ :: (spC 1 (mix1 (S 0) q) ++ (spC 9 (S 1) ++ (spC 17 (S 2) ++ _)))
    rw [spC_m1 1 (S 0) q]
    rfl
  · show _ = _ :: (spC 1 (S 0) ++ (spC 9 (mix1 (S 1) q) ++ (spC 17 (S 2) ++ _)))
    rw [spC_m1 9 (S 1) q]
    rfl
  · show _ = _ :: (spC 1 (S 0) ++ (spC 9 (S 1) ++ (spC 17 (mix1 (S 2) q) ++ _)))
    rw [spC_m1 17 (S 2) q]
    rfl
theorem getM1 (S F : Nat → Nat → Int32) (rb : Nat) {j : Nat} (hj : j < 3) : (mC S F rb)[sa j 1]? = some (.inl (0, .inl (rv_tab 10 (fun k => S j (4 + k))))) := lt3 (P := fun j => (mC S F rb)[sa j 1]? = some (.inl (0, .inl (rv_tab 10 (fun k => S j (4 + k)))))) rfl rfl rfl hj
theorem cpyR1 (S : Nat → Nat → Int32) {i j : Nat} (hi : i < 3) (hj : j < 3) (hij : ¬ i = j) (s : Nat → Int32) (F : Nat → Nat → Int32) (rb : Nat) : rv_cpy (cR S j s F rb) (sa i 1) 0 (sa j 1) 0 10 = some (cR S j (mix1 s (S i)) F rb) := by
  unfold cR
  rw [show (10 : Int32) = nI 10 from rfl, cpy_at (getM1 _ F rb hi) (getM1 _ F rb hj) (by decide), upA_n S hij, setM1 _ F rb hj (S i), upA_upA, upA_s]
def mix2 (s q : Nat → Int32) : Nat → Int32 := fun i => if 14 ≤ i ∧ i < 54 then q i else s i
theorem spC_m2 (b : Nat) (s q : Nat → Int32) : spC b (mix2 s q) = [.inr (1, [.ref (b + 1), .ref (b + 2), .ref (b + 3), .ref (b + 4), .ref (b + 5), .ref (b + 6), .ref (b + 7), .int (s 0), .int (s 2), .int (s 1), .int (s 3), .int (s 96)]), .inl (0, .inl (rv_tab 10 (fun k => s (4 + k)))), .inl (0, .inl (rv_tab 40 (fun k => q (14 + k)))), .inl (0, .inl (rv_tab 8 (fun k => s (54 + 4 * k + 0)))), .inl (0, .inl (rv_tab 8 (fun k => s (54 + 4 * k + 1)))), .inl (0, .inl (rv_tab 8 (fun k => s (54 + 4 * k + 2)))), .inl (0, .inl (rv_tab 8 (fun k => s (54 + 4 * k + 3)))), .inl (0, .inl (rv_tab 10 (fun k => s (86 + k))))] := by
  have f0 : mix2 s q 0 = s 0 := by simp only [mix2]; grind
  have f2 : mix2 s q 2 = s 2 := by simp only [mix2]; grind
  have f1 : mix2 s q 1 = s 1 := by simp only [mix2]; grind
  have f3 : mix2 s q 3 = s 3 := by simp only [mix2]; grind
  have f96 : mix2 s q 96 = s 96 := by simp only [mix2]; grind
  have a1 : rv_tab 10 (fun k => mix2 s q (4 + k)) = rv_tab 10 (fun k => s (4 + k)) := rv_tab_congr (fun k hk => by simp only [mix2]; grind)
  have a2 : rv_tab 40 (fun k => mix2 s q (14 + k)) = rv_tab 40 (fun k => q (14 + k)) := rv_tab_congr (fun k hk => by simp only [mix2]; grind)
  have a3 : rv_tab 8 (fun k => mix2 s q (54 + 4 * k + 0)) = rv_tab 8 (fun k => s (54 + 4 * k + 0)) := rv_tab_congr (fun k hk => by simp only [mix2]; grind)
  have a4 : rv_tab 8 (fun k => mix2 s q (54 + 4 * k + 1)) = rv_tab 8 (fun k => s (54 + 4 * k + 1)) := rv_tab_congr (fun k hk => by simp only [mix2]; grind)
  have a5 : rv_tab 8 (fun k => mix2 s q (54 + 4 * k + 2)) = rv_tab 8 (fun k => s (54 + 4 * k + 2)) := rv_tab_congr (fun k hk => by simp only [mix2]; grind)
  have a6 : rv_tab 8 (fun k => mix2 s q (54 + 4 * k + 3)) = rv_tab 8 (fun k => s (54 + 4 * k + 3)) := rv_tab_congr (fun k hk => by simp only [mix2]; grind)
  have a7 : rv_tab 10 (fun k => mix2 s q (86 + k)) = rv_tab 10 (fun k => s (86 + k)) := rv_tab_congr (fun k hk => by simp only [mix2]; grind)
  unfold spC
  rw [f0, f2, f1, f3, f96, a1, a2, a3, a4, a5, a6, a7]
theorem setM2 (S F : Nat → Nat → Int32) (rb : Nat) {j : Nat} (hj : j < 3) (q : Nat → Int32) : (mC S F rb).set (sa j 2) (.inl (0, .inl (rv_tab 40 (fun k => q (14 + k))))) = mC (upA S j (mix2 (S j) q)) F rb := by
  refine lt3 (P := fun j => (mC S F rb).set (sa j 2) (.inl (0, .inl (rv_tab 40 (fun k => q (14 + k))))) = mC (upA S j (mix2 (S j) q)) F rb) ?_ ?_ ?_ hj
  · show _ = _ :: (spC 1 (mix2 (S 0) q) ++ (spC 9 (S 1) ++ (spC 17 (S 2) ++ _)))
    rw [spC_m2 1 (S 0) q]
    rfl
  · show _ = _ :: (spC 1 (S 0) ++ (spC 9 (mix2 (S 1) q) ++ (spC 17 (S 2) ++ _)))
    rw [spC_m2 9 (S 1) q]
    rfl
  · show _ = _ :: (spC 1 (S 0) ++ (spC 9 (S 1) ++ (spC 17 (mix2 (S 2) q) ++ _)))
    rw [spC_m2 17 (S 2) q]
    rfl
theorem getM2 (S F : Nat → Nat → Int32) (rb : Nat) {j : Nat} (hj : j < 3) : (mC S F rb)[sa j 2]? = some (.inl (0, .inl (rv_tab 40 (fun k => S j (14 + k))))) := lt3 (P := fun j => (mC S F rb)[sa j 2]? = some (.inl (0, .inl (rv_tab 40 (fun k => S j (14 + k)))))) rfl rfl rfl hj
theorem cpyR2 (S : Nat → Nat → Int32) {i j : Nat} (hi : i < 3) (hj : j < 3) (hij : ¬ i = j) (s : Nat → Int32) (F : Nat → Nat → Int32) (rb : Nat) : rv_cpy (cR S j s F rb) (sa i 2) 0 (sa j 2) 0 40 = some (cR S j (mix2 s (S i)) F rb) := by
  unfold cR
  rw [show (40 : Int32) = nI 40 from rfl, cpy_at (getM2 _ F rb hi) (getM2 _ F rb hj) (by decide), upA_n S hij, setM2 _ F rb hj (S i), upA_upA, upA_s]
def mix3 (s q : Nat → Int32) : Nat → Int32 := fun i => if 54 ≤ i ∧ i < 86 ∧ i % 4 = 2 then q i else s i
theorem spC_m3 (b : Nat) (s q : Nat → Int32) : spC b (mix3 s q) = [.inr (1, [.ref (b + 1), .ref (b + 2), .ref (b + 3), .ref (b + 4), .ref (b + 5), .ref (b + 6), .ref (b + 7), .int (s 0), .int (s 2), .int (s 1), .int (s 3), .int (s 96)]), .inl (0, .inl (rv_tab 10 (fun k => s (4 + k)))), .inl (0, .inl (rv_tab 40 (fun k => s (14 + k)))), .inl (0, .inl (rv_tab 8 (fun k => q (54 + 4 * k + 0)))), .inl (0, .inl (rv_tab 8 (fun k => s (54 + 4 * k + 1)))), .inl (0, .inl (rv_tab 8 (fun k => s (54 + 4 * k + 2)))), .inl (0, .inl (rv_tab 8 (fun k => s (54 + 4 * k + 3)))), .inl (0, .inl (rv_tab 10 (fun k => s (86 + k))))] := by
  have f0 : mix3 s q 0 = s 0 := by simp only [mix3]; grind
  have f2 : mix3 s q 2 = s 2 := by simp only [mix3]; grind
  have f1 : mix3 s q 1 = s 1 := by simp only [mix3]; grind
  have f3 : mix3 s q 3 = s 3 := by simp only [mix3]; grind
  have f96 : mix3 s q 96 = s 96 := by simp only [mix3]; grind
  have a1 : rv_tab 10 (fun k => mix3 s q (4 + k)) = rv_tab 10 (fun k => s (4 + k)) := rv_tab_congr (fun k hk => by simp only [mix3]; grind)
  have a2 : rv_tab 40 (fun k => mix3 s q (14 + k)) = rv_tab 40 (fun k => s (14 + k)) := rv_tab_congr (fun k hk => by simp only [mix3]; grind)
  have a3 : rv_tab 8 (fun k => mix3 s q (54 + 4 * k + 0)) = rv_tab 8 (fun k => q (54 + 4 * k + 0)) := rv_tab_congr (fun k hk => by simp only [mix3]; grind)
  have a4 : rv_tab 8 (fun k => mix3 s q (54 + 4 * k + 1)) = rv_tab 8 (fun k => s (54 + 4 * k + 1)) := rv_tab_congr (fun k hk => by simp only [mix3]; grind)
  have a5 : rv_tab 8 (fun k => mix3 s q (54 + 4 * k + 2)) = rv_tab 8 (fun k => s (54 + 4 * k + 2)) := rv_tab_congr (fun k hk => by simp only [mix3]; grind)
  have a6 : rv_tab 8 (fun k => mix3 s q (54 + 4 * k + 3)) = rv_tab 8 (fun k => s (54 + 4 * k + 3)) := rv_tab_congr (fun k hk => by simp only [mix3]; grind)
  have a7 : rv_tab 10 (fun k => mix3 s q (86 + k)) = rv_tab 10 (fun k => s (86 + k)) := rv_tab_congr (fun k hk => by simp only [mix3]; grind)
  unfold spC
  rw [f0, f2, f1, f3, f96, a1, a2, a3, a4, a5, a6, a7]
theorem setM3 (S F : Nat → Nat → Int32) (rb : Nat) {j : Nat} (hj : j < 3) (q : Nat → Int32) : (mC S F rb).set (sa j 3) (.inl (0, .inl (rv_tab 8 (fun k => q (54 + 4 * k + 0))))) = mC (upA S j (mix3 (S j) q)) F rb := by
  refine lt3 (P := fun j => (mC S F rb).set (sa j 3) (.inl (0, .inl (rv_tab 8 (fun k => q (54 + 4 * k + 0))))) = mC (upA S j (mix3 (S j) q)) F rb) ?_ ?_ ?_ hj
  · show _ = _ :: (spC 1 (mix3 (S 0) q) ++ (spC 9 (S 1) ++ (spC 17 (S 2) ++ _)))
    rw [spC_m3 1 (S 0) q]
    rfl
  · show _ = _ :: (spC 1 (S 0) ++ (spC 9 (mix3 (S 1) q) ++ (spC 17 (S 2) ++ _)))
    rw [spC_m3 9 (S 1) q]
    rfl
  · show _ = _ :: (spC 1 (S 0) ++ (spC 9 (S 1) ++ (spC 17 (mix3 (S 2) q) ++ _)))
    rw [spC_m3 17 (S 2) q]
    rfl
theorem getM3 (S F : Nat → Nat → Int32) (rb : Nat) {j : Nat} (hj : j < 3) : (mC S F rb)[sa j 3]? = some (.inl (0, .inl (rv_tab 8 (fun k => S j (54 + 4 * k + 0))))) := lt3 (P := fun j => (mC S F rb)[sa j 3]? = some (.inl (0, .inl (rv_tab 8 (fun k => S j (54 + 4 * k + 0)))))) rfl rfl rfl hj
theorem cpyR3 (S : Nat → Nat → Int32) {i j : Nat} (hi : i < 3) (hj : j < 3) (hij : ¬ i = j) (s : Nat → Int32) (F : Nat → Nat → Int32) (rb : Nat) : rv_cpy (cR S j s F rb) (sa i 3) 0 (sa j 3) 0 8 = some (cR S j (mix3 s (S i)) F rb) := by
  unfold cR
  rw [show (8 : Int32) = nI 8 from rfl, cpy_at (getM3 _ F rb hi) (getM3 _ F rb hj) (by decide), upA_n S hij, setM3 _ F rb hj (S i), upA_upA, upA_s]
def mix4 (s q : Nat → Int32) : Nat → Int32 := fun i => if 54 ≤ i ∧ i < 86 ∧ i % 4 = 3 then q i else s i
theorem spC_m4 (b : Nat) (s q : Nat → Int32) : spC b (mix4 s q) = [.inr (1, [.ref (b + 1), .ref (b + 2), .ref (b + 3), .ref (b + 4), .ref (b + 5), .ref (b + 6), .ref (b + 7), .int (s 0), .int (s 2), .int (s 1), .int (s 3), .int (s 96)]), .inl (0, .inl (rv_tab 10 (fun k => s (4 + k)))), .inl (0, .inl (rv_tab 40 (fun k => s (14 + k)))), .inl (0, .inl (rv_tab 8 (fun k => s (54 + 4 * k + 0)))), .inl (0, .inl (rv_tab 8 (fun k => q (54 + 4 * k + 1)))), .inl (0, .inl (rv_tab 8 (fun k => s (54 + 4 * k + 2)))), .inl (0, .inl (rv_tab 8 (fun k => s (54 + 4 * k + 3)))), .inl (0, .inl (rv_tab 10 (fun k => s (86 + k))))] := by
  have f0 : mix4 s q 0 = s 0 := by simp only [mix4]; grind
  have f2 : mix4 s q 2 = s 2 := by simp only [mix4]; grind
  have f1 : mix4 s q 1 = s 1 := by simp only [mix4]; grind
  have f3 : mix4 s q 3 = s 3 := by simp only [mix4]; grind
  have f96 : mix4 s q 96 = s 96 := by simp only [mix4]; grind
  have a1 : rv_tab 10 (fun k => mix4 s q (4 + k)) = rv_tab 10 (fun k => s (4 + k)) := rv_tab_congr (fun k hk => by simp only [mix4]; grind)
  have a2 : rv_tab 40 (fun k => mix4 s q (14 + k)) = rv_tab 40 (fun k => s (14 + k)) := rv_tab_congr (fun k hk => by simp only [mix4]; grind)
  have a3 : rv_tab 8 (fun k => mix4 s q (54 + 4 * k + 0)) = rv_tab 8 (fun k => s (54 + 4 * k + 0)) := rv_tab_congr (fun k hk => by simp only [mix4]; grind)
  have a4 : rv_tab 8 (fun k => mix4 s q (54 + 4 * k + 1)) = rv_tab 8 (fun k => q (54 + 4 * k + 1)) := rv_tab_congr (fun k hk => by simp only [mix4]; grind)
  have a5 : rv_tab 8 (fun k => mix4 s q (54 + 4 * k + 2)) = rv_tab 8 (fun k => s (54 + 4 * k + 2)) := rv_tab_congr (fun k hk => by simp only [mix4]; grind)
  have a6 : rv_tab 8 (fun k => mix4 s q (54 + 4 * k + 3)) = rv_tab 8 (fun k => s (54 + 4 * k + 3)) := rv_tab_congr (fun k hk => by simp only [mix4]; grind)
  have a7 : rv_tab 10 (fun k => mix4 s q (86 + k)) = rv_tab 10 (fun k => s (86 + k)) := rv_tab_congr (fun k hk => by simp only [mix4]; grind)
  unfold spC
  rw [f0, f2, f1, f3, f96, a1, a2, a3, a4, a5, a6, a7]
theorem setM4 (S F : Nat → Nat → Int32) (rb : Nat) {j : Nat} (hj : j < 3) (q : Nat → Int32) : (mC S F rb).set (sa j 4) (.inl (0, .inl (rv_tab 8 (fun k => q (54 + 4 * k + 1))))) = mC (upA S j (mix4 (S j) q)) F rb := by
  refine lt3 (P := fun j => (mC S F rb).set (sa j 4) (.inl (0, .inl (rv_tab 8 (fun k => q (54 + 4 * k + 1))))) = mC (upA S j (mix4 (S j) q)) F rb) ?_ ?_ ?_ hj
  · show _ = _ :: (spC 1 (mix4 (S 0) q) ++ (spC 9 (S 1) ++ (spC 17 (S 2) ++ _)))
    rw [spC_m4 1 (S 0) q]
    rfl
  · show _ = _ :: (spC 1 (S 0) ++ (spC 9 (mix4 (S 1) q) ++ (spC 17 (S 2) ++ _)))
    rw [spC_m4 9 (S 1) q]
    rfl
  · show _ = _ :: (spC 1 (S 0) ++ (spC 9 (S 1) ++ (spC 17 (mix4 (S 2) q) ++ _)))
    rw [spC_m4 17 (S 2) q]
    rfl
theorem getM4 (S F : Nat → Nat → Int32) (rb : Nat) {j : Nat} (hj : j < 3) : (mC S F rb)[sa j 4]? = some (.inl (0, .inl (rv_tab 8 (fun k => S j (54 + 4 * k + 1))))) := lt3 (P := fun j => (mC S F rb)[sa j 4]? = some (.inl (0, .inl (rv_tab 8 (fun k => S j (54 + 4 * k + 1)))))) rfl rfl rfl hj
theorem cpyR4 (S : Nat → Nat → Int32) {i j : Nat} (hi : i < 3) (hj : j < 3) (hij : ¬ i = j) (s : Nat → Int32) (F : Nat → Nat → Int32) (rb : Nat) : rv_cpy (cR S j s F rb) (sa i 4) 0 (sa j 4) 0 8 = some (cR S j (mix4 s (S i)) F rb) := by
  unfold cR
  rw [show (8 : Int32) = nI 8 from rfl, cpy_at (getM4 _ F rb hi) (getM4 _ F rb hj) (by decide), upA_n S hij, setM4 _ F rb hj (S i), upA_upA, upA_s]
def mix5 (s q : Nat → Int32) : Nat → Int32 := fun i => if 54 ≤ i ∧ i < 86 ∧ i % 4 = 0 then q i else s i
theorem spC_m5 (b : Nat) (s q : Nat → Int32) : spC b (mix5 s q) = [.inr (1, [.ref (b + 1), .ref (b + 2), .ref (b + 3), .ref (b + 4), .ref (b + 5), .ref (b + 6), .ref (b + 7), .int (s 0), .int (s 2), .int (s 1), .int (s 3), .int (s 96)]), .inl (0, .inl (rv_tab 10 (fun k => s (4 + k)))), .inl (0, .inl (rv_tab 40 (fun k => s (14 + k)))), .inl (0, .inl (rv_tab 8 (fun k => s (54 + 4 * k + 0)))), .inl (0, .inl (rv_tab 8 (fun k => s (54 + 4 * k + 1)))), .inl (0, .inl (rv_tab 8 (fun k => q (54 + 4 * k + 2)))), .inl (0, .inl (rv_tab 8 (fun k => s (54 + 4 * k + 3)))), .inl (0, .inl (rv_tab 10 (fun k => s (86 + k))))] := by
  have f0 : mix5 s q 0 = s 0 := by simp only [mix5]; grind
  have f2 : mix5 s q 2 = s 2 := by simp only [mix5]; grind
  have f1 : mix5 s q 1 = s 1 := by simp only [mix5]; grind
  have f3 : mix5 s q 3 = s 3 := by simp only [mix5]; grind
  have f96 : mix5 s q 96 = s 96 := by simp only [mix5]; grind
  have a1 : rv_tab 10 (fun k => mix5 s q (4 + k)) = rv_tab 10 (fun k => s (4 + k)) := rv_tab_congr (fun k hk => by simp only [mix5]; grind)
  have a2 : rv_tab 40 (fun k => mix5 s q (14 + k)) = rv_tab 40 (fun k => s (14 + k)) := rv_tab_congr (fun k hk => by simp only [mix5]; grind)
  have a3 : rv_tab 8 (fun k => mix5 s q (54 + 4 * k + 0)) = rv_tab 8 (fun k => s (54 + 4 * k + 0)) := rv_tab_congr (fun k hk => by simp only [mix5]; grind)
  have a4 : rv_tab 8 (fun k => mix5 s q (54 + 4 * k + 1)) = rv_tab 8 (fun k => s (54 + 4 * k + 1)) := rv_tab_congr (fun k hk => by simp only [mix5]; grind)
  have a5 : rv_tab 8 (fun k => mix5 s q (54 + 4 * k + 2)) = rv_tab 8 (fun k => q (54 + 4 * k + 2)) := rv_tab_congr (fun k hk => by simp only [mix5]; grind)
  have a6 : rv_tab 8 (fun k => mix5 s q (54 + 4 * k + 3)) = rv_tab 8 (fun k => s (54 + 4 * k + 3)) := rv_tab_congr (fun k hk => by simp only [mix5]; grind)
  have a7 : rv_tab 10 (fun k => mix5 s q (86 + k)) = rv_tab 10 (fun k => s (86 + k)) := rv_tab_congr (fun k hk => by simp only [mix5]; grind)
  unfold spC
  rw [f0, f2, f1, f3, f96, a1, a2, a3, a4, a5, a6, a7]
theorem setM5 (S F : Nat → Nat → Int32) (rb : Nat) {j : Nat} (hj : j < 3) (q : Nat → Int32) : (mC S F rb).set (sa j 5) (.inl (0, .inl (rv_tab 8 (fun k => q (54 + 4 * k + 2))))) = mC (upA S j (mix5 (S j) q)) F rb := by
  refine lt3 (P := fun j => (mC S F rb).set (sa j 5) (.inl (0, .inl (rv_tab 8 (fun k => q (54 + 4 * k + 2))))) = mC (upA S j (mix5 (S j) q)) F rb) ?_ ?_ ?_ hj
  · show _ = _ :: (spC 1 (mix5 (S 0) q) ++ (spC 9 (S 1) ++ (spC 17 (S 2) ++ _)))
    rw [spC_m5 1 (S 0) q]
    rfl
  · show _ = _ :: (spC 1 (S 0) ++ (spC 9 (mix5 (S 1) q) ++ (spC 17 (S 2) ++ _)))
    rw [spC_m5 9 (S 1) q]
    rfl
  · show _ = _ :: (spC 1 (S 0) ++ (spC 9 (S 1) ++ (spC 17 (mix5 (S 2) q) ++ _)))
    rw [spC_m5 17 (S 2) q]
    rfl
theorem getM5 (S F : Nat → Nat → Int32) (rb : Nat) {j : Nat} (hj : j < 3) : (mC S F rb)[sa j 5]? = some (.inl (0, .inl (rv_tab 8 (fun k => S j (54 + 4 * k + 2))))) := lt3 (P := fun j => (mC S F rb)[sa j 5]? = some (.inl (0, .inl (rv_tab 8 (fun k => S j (54 + 4 * k + 2)))))) rfl rfl rfl hj
theorem cpyR5 (S : Nat → Nat → Int32) {i j : Nat} (hi : i < 3) (hj : j < 3) (hij : ¬ i = j) (s : Nat → Int32) (F : Nat → Nat → Int32) (rb : Nat) : rv_cpy (cR S j s F rb) (sa i 5) 0 (sa j 5) 0 8 = some (cR S j (mix5 s (S i)) F rb) := by
  unfold cR
  rw [show (8 : Int32) = nI 8 from rfl, cpy_at (getM5 _ F rb hi) (getM5 _ F rb hj) (by decide), upA_n S hij, setM5 _ F rb hj (S i), upA_upA, upA_s]
def mix6 (s q : Nat → Int32) : Nat → Int32 := fun i => if 54 ≤ i ∧ i < 86 ∧ i % 4 = 1 then q i else s i
theorem spC_m6 (b : Nat) (s q : Nat → Int32) : spC b (mix6 s q) = [.inr (1, [.ref (b + 1), .ref (b + 2), .ref (b + 3), .ref (b + 4), .ref (b + 5), .ref (b + 6), .ref (b + 7), .int (s 0), .int (s 2), .int (s 1), .int (s 3), .int (s 96)]), .inl (0, .inl (rv_tab 10 (fun k => s (4 + k)))), .inl (0, .inl (rv_tab 40 (fun k => s (14 + k)))), .inl (0, .inl (rv_tab 8 (fun k => s (54 + 4 * k + 0)))), .inl (0, .inl (rv_tab 8 (fun k => s (54 + 4 * k + 1)))), .inl (0, .inl (rv_tab 8 (fun k => s (54 + 4 * k + 2)))), .inl (0, .inl (rv_tab 8 (fun k => q (54 + 4 * k + 3)))), .inl (0, .inl (rv_tab 10 (fun k => s (86 + k))))] := by
  have f0 : mix6 s q 0 = s 0 := by simp only [mix6]; grind
  have f2 : mix6 s q 2 = s 2 := by simp only [mix6]; grind
  have f1 : mix6 s q 1 = s 1 := by simp only [mix6]; grind
  have f3 : mix6 s q 3 = s 3 := by simp only [mix6]; grind
  have f96 : mix6 s q 96 = s 96 := by simp only [mix6]; grind
  have a1 : rv_tab 10 (fun k => mix6 s q (4 + k)) = rv_tab 10 (fun k => s (4 + k)) := rv_tab_congr (fun k hk => by simp only [mix6]; grind)
  have a2 : rv_tab 40 (fun k => mix6 s q (14 + k)) = rv_tab 40 (fun k => s (14 + k)) := rv_tab_congr (fun k hk => by simp only [mix6]; grind)
  have a3 : rv_tab 8 (fun k => mix6 s q (54 + 4 * k + 0)) = rv_tab 8 (fun k => s (54 + 4 * k + 0)) := rv_tab_congr (fun k hk => by simp only [mix6]; grind)
  have a4 : rv_tab 8 (fun k => mix6 s q (54 + 4 * k + 1)) = rv_tab 8 (fun k => s (54 + 4 * k + 1)) := rv_tab_congr (fun k hk => by simp only [mix6]; grind)
  have a5 : rv_tab 8 (fun k => mix6 s q (54 + 4 * k + 2)) = rv_tab 8 (fun k => s (54 + 4 * k + 2)) := rv_tab_congr (fun k hk => by simp only [mix6]; grind)
  have a6 : rv_tab 8 (fun k => mix6 s q (54 + 4 * k + 3)) = rv_tab 8 (fun k => q (54 + 4 * k + 3)) := rv_tab_congr (fun k hk => by simp only [mix6]; grind)
  have a7 : rv_tab 10 (fun k => mix6 s q (86 + k)) = rv_tab 10 (fun k => s (86 + k)) := rv_tab_congr (fun k hk => by simp only [mix6]; grind)
  unfold spC
  rw [f0, f2, f1, f3, f96, a1, a2, a3, a4, a5, a6, a7]
theorem setM6 (S F : Nat → Nat → Int32) (rb : Nat) {j : Nat} (hj : j < 3) (q : Nat → Int32) : (mC S F rb).set (sa j 6) (.inl (0, .inl (rv_tab 8 (fun k => q (54 + 4 * k + 3))))) = mC (upA S j (mix6 (S j) q)) F rb := by
  refine lt3 (P := fun j => (mC S F rb).set (sa j 6) (.inl (0, .inl (rv_tab 8 (fun k => q (54 + 4 * k + 3))))) = mC (upA S j (mix6 (S j) q)) F rb) ?_ ?_ ?_ hj
  · show _ = _ :: (spC 1 (mix6 (S 0) q) ++ (spC 9 (S 1) ++ (spC 17 (S 2) ++ _)))
    rw [spC_m6 1 (S 0) q]
    rfl
  · show _ = _ :: (spC 1 (S 0) ++ (spC 9 (mix6 (S 1) q) ++ (spC 17 (S 2) ++ _)))
    rw [spC_m6 9 (S 1) q]
    rfl
  · show _ = _ :: (spC 1 (S 0) ++ (spC 9 (S 1) ++ (spC 17 (mix6 (S 2) q) ++ _)))
    rw [spC_m6 17 (S 2) q]
    rfl
theorem getM6 (S F : Nat → Nat → Int32) (rb : Nat) {j : Nat} (hj : j < 3) : (mC S F rb)[sa j 6]? = some (.inl (0, .inl (rv_tab 8 (fun k => S j (54 + 4 * k + 3))))) := lt3 (P := fun j => (mC S F rb)[sa j 6]? = some (.inl (0, .inl (rv_tab 8 (fun k => S j (54 + 4 * k + 3)))))) rfl rfl rfl hj
theorem cpyR6 (S : Nat → Nat → Int32) {i j : Nat} (hi : i < 3) (hj : j < 3) (hij : ¬ i = j) (s : Nat → Int32) (F : Nat → Nat → Int32) (rb : Nat) : rv_cpy (cR S j s F rb) (sa i 6) 0 (sa j 6) 0 8 = some (cR S j (mix6 s (S i)) F rb) := by
  unfold cR
  rw [show (8 : Int32) = nI 8 from rfl, cpy_at (getM6 _ F rb hi) (getM6 _ F rb hj) (by decide), upA_n S hij, setM6 _ F rb hj (S i), upA_upA, upA_s]
def mix7 (s q : Nat → Int32) : Nat → Int32 := fun i => if 86 ≤ i ∧ i < 96 then q i else s i
theorem spC_m7 (b : Nat) (s q : Nat → Int32) : spC b (mix7 s q) = [.inr (1, [.ref (b + 1), .ref (b + 2), .ref (b + 3), .ref (b + 4), .ref (b + 5), .ref (b + 6), .ref (b + 7), .int (s 0), .int (s 2), .int (s 1), .int (s 3), .int (s 96)]), .inl (0, .inl (rv_tab 10 (fun k => s (4 + k)))), .inl (0, .inl (rv_tab 40 (fun k => s (14 + k)))), .inl (0, .inl (rv_tab 8 (fun k => s (54 + 4 * k + 0)))), .inl (0, .inl (rv_tab 8 (fun k => s (54 + 4 * k + 1)))), .inl (0, .inl (rv_tab 8 (fun k => s (54 + 4 * k + 2)))), .inl (0, .inl (rv_tab 8 (fun k => s (54 + 4 * k + 3)))), .inl (0, .inl (rv_tab 10 (fun k => q (86 + k))))] := by
  have f0 : mix7 s q 0 = s 0 := by simp only [mix7]; grind
  have f2 : mix7 s q 2 = s 2 := by simp only [mix7]; grind
  have f1 : mix7 s q 1 = s 1 := by simp only [mix7]; grind
  have f3 : mix7 s q 3 = s 3 := by simp only [mix7]; grind
  have f96 : mix7 s q 96 = s 96 := by simp only [mix7]; grind
  have a1 : rv_tab 10 (fun k => mix7 s q (4 + k)) = rv_tab 10 (fun k => s (4 + k)) := rv_tab_congr (fun k hk => by simp only [mix7]; grind)
  have a2 : rv_tab 40 (fun k => mix7 s q (14 + k)) = rv_tab 40 (fun k => s (14 + k)) := rv_tab_congr (fun k hk => by simp only [mix7]; grind)
  have a3 : rv_tab 8 (fun k => mix7 s q (54 + 4 * k + 0)) = rv_tab 8 (fun k => s (54 + 4 * k + 0)) := rv_tab_congr (fun k hk => by simp only [mix7]; grind)
  have a4 : rv_tab 8 (fun k => mix7 s q (54 + 4 * k + 1)) = rv_tab 8 (fun k => s (54 + 4 * k + 1)) := rv_tab_congr (fun k hk => by simp only [mix7]; grind)
  have a5 : rv_tab 8 (fun k => mix7 s q (54 + 4 * k + 2)) = rv_tab 8 (fun k => s (54 + 4 * k + 2)) := rv_tab_congr (fun k hk => by simp only [mix7]; grind)
  have a6 : rv_tab 8 (fun k => mix7 s q (54 + 4 * k + 3)) = rv_tab 8 (fun k => s (54 + 4 * k + 3)) := rv_tab_congr (fun k hk => by simp only [mix7]; grind)
  have a7 : rv_tab 10 (fun k => mix7 s q (86 + k)) = rv_tab 10 (fun k => q (86 + k)) := rv_tab_congr (fun k hk => by simp only [mix7]; grind)
  unfold spC
  rw [f0, f2, f1, f3, f96, a1, a2, a3, a4, a5, a6, a7]
theorem setM7 (S F : Nat → Nat → Int32) (rb : Nat) {j : Nat} (hj : j < 3) (q : Nat → Int32) : (mC S F rb).set (sa j 7) (.inl (0, .inl (rv_tab 10 (fun k => q (86 + k))))) = mC (upA S j (mix7 (S j) q)) F rb := by
  refine lt3 (P := fun j => (mC S F rb).set (sa j 7) (.inl (0, .inl (rv_tab 10 (fun k => q (86 + k))))) = mC (upA S j (mix7 (S j) q)) F rb) ?_ ?_ ?_ hj
  · show _ = _ :: (spC 1 (mix7 (S 0) q) ++ (spC 9 (S 1) ++ (spC 17 (S 2) ++ _)))
    rw [spC_m7 1 (S 0) q]
    rfl
  · show _ = _ :: (spC 1 (S 0) ++ (spC 9 (mix7 (S 1) q) ++ (spC 17 (S 2) ++ _)))
    rw [spC_m7 9 (S 1) q]
    rfl
  · show _ = _ :: (spC 1 (S 0) ++ (spC 9 (S 1) ++ (spC 17 (mix7 (S 2) q) ++ _)))
    rw [spC_m7 17 (S 2) q]
    rfl
theorem getM7 (S F : Nat → Nat → Int32) (rb : Nat) {j : Nat} (hj : j < 3) : (mC S F rb)[sa j 7]? = some (.inl (0, .inl (rv_tab 10 (fun k => S j (86 + k))))) := lt3 (P := fun j => (mC S F rb)[sa j 7]? = some (.inl (0, .inl (rv_tab 10 (fun k => S j (86 + k)))))) rfl rfl rfl hj
theorem cpyR7 (S : Nat → Nat → Int32) {i j : Nat} (hi : i < 3) (hj : j < 3) (hij : ¬ i = j) (s : Nat → Int32) (F : Nat → Nat → Int32) (rb : Nat) : rv_cpy (cR S j s F rb) (sa i 7) 0 (sa j 7) 0 10 = some (cR S j (mix7 s (S i)) F rb) := by
  unfold cR
  rw [show (10 : Int32) = nI 10 from rfl, cpy_at (getM7 _ F rb hi) (getM7 _ F rb hj) (by decide), upA_n S hij, setM7 _ F rb hj (S i), upA_upA, upA_s]
theorem cg_n1 (S : Nat → Nat → Int32) {i : Nat} (j : Nat) (hi : i < 3) (s : Nat → Int32) (F : Nat → Nat → Int32) (rb : Nat) : rv_ldFR (cR S j s F rb) (sp i) 1 0 = some (sa i 1) := lfS1 _ F rb hi
theorem cg_n2 (S : Nat → Nat → Int32) {i : Nat} (j : Nat) (hi : i < 3) (s : Nat → Int32) (F : Nat → Nat → Int32) (rb : Nat) : rv_ldFR (cR S j s F rb) (sp i) 1 1 = some (sa i 2) := lfS2 _ F rb hi
theorem cg_n3 (S : Nat → Nat → Int32) {i : Nat} (j : Nat) (hi : i < 3) (s : Nat → Int32) (F : Nat → Nat → Int32) (rb : Nat) : rv_ldFR (cR S j s F rb) (sp i) 1 2 = some (sa i 3) := lfS3 _ F rb hi
theorem cg_n4 (S : Nat → Nat → Int32) {i : Nat} (j : Nat) (hi : i < 3) (s : Nat → Int32) (F : Nat → Nat → Int32) (rb : Nat) : rv_ldFR (cR S j s F rb) (sp i) 1 3 = some (sa i 4) := lfS4 _ F rb hi
theorem cg_n5 (S : Nat → Nat → Int32) {i : Nat} (j : Nat) (hi : i < 3) (s : Nat → Int32) (F : Nat → Nat → Int32) (rb : Nat) : rv_ldFR (cR S j s F rb) (sp i) 1 4 = some (sa i 5) := lfS5 _ F rb hi
theorem cg_n6 (S : Nat → Nat → Int32) {i : Nat} (j : Nat) (hi : i < 3) (s : Nat → Int32) (F : Nat → Nat → Int32) (rb : Nat) : rv_ldFR (cR S j s F rb) (sp i) 1 5 = some (sa i 6) := lfS6 _ F rb hi
theorem cg_n7 (S : Nat → Nat → Int32) {i : Nat} (j : Nat) (hi : i < 3) (s : Nat → Int32) (F : Nat → Nat → Int32) (rb : Nat) : rv_ldFR (cR S j s F rb) (sp i) 1 6 = some (sa i 7) := lfS7 _ F rb hi
theorem ci_n7 (S : Nat → Nat → Int32) {i j : Nat} (hi : i < 3) (hij : ¬ i = j) (s : Nat → Int32) (F : Nat → Nat → Int32) (rb : Nat) : rv_ldFI (cR S j s F rb) (sp i) 1 7 = some (S i 0) := by
  unfold cR
  rw [lgS7 _ F rb hi, upA_n S hij]
theorem ci_n8 (S : Nat → Nat → Int32) {i j : Nat} (hi : i < 3) (hij : ¬ i = j) (s : Nat → Int32) (F : Nat → Nat → Int32) (rb : Nat) : rv_ldFI (cR S j s F rb) (sp i) 1 8 = some (S i 2) := by
  unfold cR
  rw [lgS8 _ F rb hi, upA_n S hij]
theorem ci_n9 (S : Nat → Nat → Int32) {i j : Nat} (hi : i < 3) (hij : ¬ i = j) (s : Nat → Int32) (F : Nat → Nat → Int32) (rb : Nat) : rv_ldFI (cR S j s F rb) (sp i) 1 9 = some (S i 1) := by
  unfold cR
  rw [lgS9 _ F rb hi, upA_n S hij]
theorem ci_n10 (S : Nat → Nat → Int32) {i j : Nat} (hi : i < 3) (hij : ¬ i = j) (s : Nat → Int32) (F : Nat → Nat → Int32) (rb : Nat) : rv_ldFI (cR S j s F rb) (sp i) 1 10 = some (S i 3) := by
  unfold cR
  rw [lgS10 _ F rb hi, upA_n S hij]
theorem ci_n11 (S : Nat → Nat → Int32) {i j : Nat} (hi : i < 3) (hij : ¬ i = j) (s : Nat → Int32) (F : Nat → Nat → Int32) (rb : Nat) : rv_ldFI (cR S j s F rb) (sp i) 1 11 = some (S i 96) := by
  unfold cR
  rw [lgS11 _ F rb hi, upA_n S hij]
theorem k_take (S : Nat → Nat → Int32) {i j : Nat} (hi : i < 3) (hj : j < 3) (hij : ¬ i = j) (F : Nat → Nat → Int32) (rb : Nat) : rv_EV 9 [.ref (sp j), .ref (sp i)] (mC S F rb) = some (none, cR S j (S i) F rb) := by
  rw [← cR_self S j F rb, ev_X2_take _ _ _ (co S hj _ F rb)]
  simp only [Option.bind_some, cg_n1 S j hi, cg_n1 S j hj, cpyR1 S hi hj hij, cg_n2 S j hi, cg_n2 S j hj, cpyR2 S hi hj hij, cg_n3 S j hi, cg_n3 S j hj, cpyR3 S hi hj hij, cg_n4 S j hi, cg_n4 S j hj, cpyR4 S hi hj hij, cg_n5 S j hi, cg_n5 S j hj, cpyR5 S hi hj hij, cg_n6 S j hi, cg_n6 S j hj, cpyR6 S hi hj hij, cg_n7 S j hi, cg_n7 S j hj, cpyR7 S hi hj hij, ci_n7 S hi hij, ch7 S hj, ci_n8 S hi hij, ch8 S hj, ci_n9 S hi hij, ch9 S hj, ci_n10 S hi hij, ch10 S hj, ci_n11 S hi hij, ch11 S hj]
  refine congrArg (fun w => some (none, w)) (cR_congr S j F rb fun k hk => ?_)
  simp only [mix1, mix2, mix3, mix4, mix5, mix6, mix7, upd]
  grind (splits := 30)
end
section
/-! THE RELATION between the reference's world mR A s r and the class's cR S 0 s F rb: one row s for both -/
def spo (s : Nat → Int32) (n : Nat) : Prop := ∀ k, k < 10 → (s (86 + k) = -1 ∨ ∃ b, b < n ∧ s (86 + k) = nI b)
def Inv (h : Nat) (s : Nat → Int32) : Prop := (∃ n, n ≤ 8 ∧ s 0 = nI n ∧ okN s n ∧ spo s n) ∧ (∃ t, t ≤ h ∧ s 1 = nI t) ∧ wOK s ∧ s 96 = 0
def kepR (h : Nat) (A : Nat → Nat → Int32) (r : Nat → Int32) (S F : Nat → Nat → Int32) : Prop := (r 4 = 0 ∧ F 0 8 = 0) ∨ (r 4 = 1 ∧ F 0 8 = 1 ∧ (∀ i, i < 96 → A 2 i = S 1 i) ∧ Inv h (S 1))
def tapR (A : Nat → Nat → Int32) (r : Nat → Int32) (F : Nat → Nat → Int32) : Prop := ∃ n, n ≤ 120 ∧ r 7 = nI n ∧ F 0 7 = nI n ∧ ∀ k, k < n → (∃ m, m < 256 ∧ A 6 k = nI m) ∧ F 34 k = (A 6 k).toInt8.toInt32
def sheR (A F : Nat → Nat → Int32) (i : Nat) : Prop := (A 7 i = -1 ∧ F (sh i) 1 = 0) ∨ (∃ b n : Nat, (b = 8 ∨ b = 16 ∨ b = 32) ∧ n ≤ 40 ∧ A 7 i = nI b ∧ F (sh i) 1 = nI b ∧ A 8 i = nI n ∧ F (sh i) 2 = nI n ∧ ∀ k, k < 40 → A 9 (40 * i + k) = F (sn i) k)
def fndR (A F : Nat → Nat → Int32) : Prop := (∀ k, k < 7 → A 5 (k + 1) = F 37 k) ∧ A 5 0 = 0 + F 37 0 + F 37 1 + F 37 2 + F 37 3 + F 37 4 + F 37 5 + F 37 6
def Rel (h : Nat) (A : Nat → Nat → Int32) (r : Nat → Int32) (S F : Nat → Nat → Int32) (s : Nat → Int32) : Prop :=
  Inv h s ∧ kepR h A r S F ∧ tapR A r F ∧ (∀ i, i < 4 → sheR A F i) ∧ fndR A F
theorem Inv.mono {h h' : Nat} {s : Nat → Int32} (hh : h ≤ h') (i : Inv h s) : Inv h' s := by
  obtain ⟨h1, ⟨t, ht, e⟩, h3, h4⟩ := i
  exact ⟨h1, ⟨t, by omega, e⟩, h3, h4⟩
theorem Rel.mono {h h' : Nat} {A : Nat → Nat → Int32} {r : Nat → Int32} {S F : Nat → Nat → Int32} {s : Nat → Int32} (hh : h ≤ h') (i : Rel h A r S F s) : Rel h' A r S F s := by
  obtain ⟨h1, h2, h3⟩ := i
  refine ⟨h1.mono hh, ?_, h3⟩
  rcases h2 with h2 | ⟨a, b, c, d⟩
  · exact Or.inl h2
  · exact Or.inr ⟨a, b, c, d.mono hh⟩
/-- both answer alike, and go on alike -/
def Sim (h' : Nat) (km kc : Nat) (as : List Value) (A : Nat → Nat → Int32) (r : Nat → Int32) (S F : Nat → Nat → Int32) (rb : Nat) (s : Nat → Int32) : Prop :=
  ∃ (v : Value) (A' : Nat → Nat → Int32) (r' : Nat → Int32) (S' F' : Nat → Nat → Int32) (rb' : Nat) (s' : Nat → Int32), rv_EV km (.ref 0 :: as) (mR A s r) = some (some v, mR A' s' r') ∧ rv_EV kc (.ref 0 :: as) (cR S 0 s F rb) = some (some v, cR S' 0 s' F' rb') ∧ Rel h' A' r' S' F' s' ∧ ((∃ x, v = .int x) ∨ ∃ x, v = .long x)
/-! findings -/
def cfd (F : Nat → Nat → Int32) (k : Nat) : Nat → Nat → Int32 := upB F 37 k (F 37 k + 1)
theorem fnd_up (A : Nat → Nat → Int32) (s : Nat → Int32) (k : Nat) : fnd (upA A 1 s) k = upA (fnd A k) 1 s := by
  funext p
  unfold fnd upB upA
  by_cases h : p = 5
  · subst h; simp
  · by_cases h1 : p = 1 <;> simp [h, h1]
theorem c_finding (S : Nat → Nat → Int32) (s : Nat → Int32) (F : Nat → Nat → Int32) (rb : Nat) {k : Nat} (hk : k < 7) : rv_EV 95 [.ref 0, .int (nI k)] (cR S 0 s F rb) = some (some (.int ((-1000001) - nI k)), cR S 0 s (cfd F k) rb) := by
  unfold cR
  rw [ev_X4_finding _ _ _ (obC _ F rb)]
  simp only [cb_eq, cb_ne, cb_lt, cb_ge, cb_gt, cb_le, cb_q, cb_qL, ri_s, rl_s, rr_s, rv_s, Option.bind_some, i10, cond_true, cond_false, lfC0, lfC1, lfC2, lfC3, lfC4, lfC5, lfC6, lgC7, lgC8, sgC7, sgC8, ldF _ F rb hk, stF _ F rb hk]
  rfl
theorem fnd_5 (A : Nat → Nat → Int32) {k : Nat} (hk : k < 7) (i : Nat) : fnd A k 5 i = if i = k + 1 then A 5 (k + 1) + 1 else if i = 0 then A 5 0 + 1 else A 5 i := by
  unfold fnd upB
  rw [upA_s]
  unfold upd
  rw [upA_s]
theorem fnd_n (A : Nat → Nat → Int32) (k : Nat) {p : Nat} (hp : ¬ p = 5) : fnd A k p = A p := by
  unfold fnd upB
  rw [upA_n _ hp, upA_n _ hp]
theorem rel_fnd {h : Nat} {A : Nat → Nat → Int32} {r : Nat → Int32} {S F : Nat → Nat → Int32} {s : Nat → Int32} (R : Rel h A r S F s) {k : Nat} (hk : k < 7) : Rel h (fnd A k) r S (cfd F k) s := by
  obtain ⟨h1, h2, h3, h4, h5⟩ := R
  have eF : ∀ p, ¬ p = 37 → cfd F k p = F p := fun p hp => upA_n F hp _
  refine ⟨h1, ?_, ?_, fun i hi => ?_, ?_⟩
  · unfold kepR at h2 ⊢
    rw [eF 0 (by decide), fnd_n A k (by decide)]
    exact h2
  · unfold tapR at h3 ⊢
    rw [eF 0 (by decide), eF 34 (by decide), fnd_n A k (by decide)]
    exact h3
  · have := h4 i hi
    unfold sheR at this ⊢
    rw [eF (sh i) (by unfold sh; omega), eF (sn i) (by unfold sn; omega), fnd_n A k (by decide), fnd_n A k (by decide), fnd_n A k (by decide)]
    exact this
  · obtain ⟨a, b⟩ := h5
    have e37 : ∀ i, cfd F k 37 i = if i = k then F 37 k + 1 else F 37 i := by
      intro i
      unfold cfd upB
      rw [upA_s]
      rfl
    refine ⟨fun i hi => ?_, ?_⟩
    · rw [fnd_5 A hk, e37]
      by_cases e : i = k
      · subst e
        rw [if_pos rfl, if_pos rfl, a i hi]
      · rw [if_neg (by omega), if_neg (by omega), if_neg e, a i hi]
    · rw [fnd_5 A hk, if_neg (by omega), if_pos rfl, b, e37, e37, e37, e37, e37, e37, e37]
      rcases (show k = 0 ∨ k = 1 ∨ k = 2 ∨ k = 3 ∨ k = 4 ∨ k = 5 ∨ k = 6 by omega) with rfl | rfl | rfl | rfl | rfl | rfl | rfl <;> simp <;> grind
/-- a finding on both sides -/
theorem sim_f {h : Nat} {km kc : Nat} {as : List Value} {A : Nat → Nat → Int32} {r : Nat → Int32} {S F : Nat → Nat → Int32} {rb : Nat} {s : Nat → Int32} (R : Rel h A r S F s) {k : Nat} (hk : k < 7) {x : Int32} (h1 : rv_EV km (.ref 0 :: as) (mR A s r) = some (some (.int x), mR (fnd A k) s r)) (h2 : rv_EV kc (.ref 0 :: as) (cR S 0 s F rb) = some (some (.int x), cR S 0 s (cfd F k) rb)) : Sim h km kc as A r S F rb s :=
  ⟨_, _, _, _, _, _, _, h1, h2, rel_fnd R hk, Or.inl ⟨x, rfl⟩⟩
/-- only the row changes -/
theorem sim_r {h h' : Nat} {km kc : Nat} {as : List Value} {A : Nat → Nat → Int32} {r : Nat → Int32} {S F : Nat → Nat → Int32} {rb : Nat} {s s' : Nat → Int32} (R : Rel h A r S F s) (hh : h ≤ h') {x : Int32} (h1 : rv_EV km (.ref 0 :: as) (mR A s r) = some (some (.int x), mR A s' r)) (h2 : rv_EV kc (.ref 0 :: as) (cR S 0 s F rb) = some (some (.int x), cR S 0 s' F rb)) (hI : Inv h' s') : Sim h' km kc as A r S F rb s :=
  ⟨_, _, _, _, _, _, _, h1, h2, ⟨hI, (R.mono hh).2⟩, Or.inl ⟨x, rfl⟩⟩
theorem r_f0 (A : Nat → Nat → Int32) (s r : Nat → Int32) : rv_EV 108 [.ref 0, .int (-1000001)] (mR A s r) = some (some (.int (-1000001)), mR (fnd A 0) s r) := (m_f0 (upA A 1 s) r).trans (by rw [fnd_up]; rfl)
theorem r_f1 (A : Nat → Nat → Int32) (s r : Nat → Int32) : rv_EV 108 [.ref 0, .int (-1000002)] (mR A s r) = some (some (.int (-1000002)), mR (fnd A 1) s r) := (m_f1 (upA A 1 s) r).trans (by rw [fnd_up]; rfl)
theorem r_f2 (A : Nat → Nat → Int32) (s r : Nat → Int32) : rv_EV 108 [.ref 0, .int (-1000003)] (mR A s r) = some (some (.int (-1000003)), mR (fnd A 2) s r) := (m_f2 (upA A 1 s) r).trans (by rw [fnd_up]; rfl)
theorem r_f3 (A : Nat → Nat → Int32) (s r : Nat → Int32) : rv_EV 108 [.ref 0, .int (-1000004)] (mR A s r) = some (some (.int (-1000004)), mR (fnd A 3) s r) := (m_f3 (upA A 1 s) r).trans (by rw [fnd_up]; rfl)
theorem r_f4 (A : Nat → Nat → Int32) (s r : Nat → Int32) : rv_EV 108 [.ref 0, .int (-1000005)] (mR A s r) = some (some (.int (-1000005)), mR (fnd A 4) s r) := (m_f4 (upA A 1 s) r).trans (by rw [fnd_up]; rfl)
theorem r_f5 (A : Nat → Nat → Int32) (s r : Nat → Int32) : rv_EV 108 [.ref 0, .int (-1000006)] (mR A s r) = some (some (.int (-1000006)), mR (fnd A 5) s r) := (m_f5 (upA A 1 s) r).trans (by rw [fnd_up]; rfl)
theorem r_f6 (A : Nat → Nat → Int32) (s r : Nat → Int32) : rv_EV 108 [.ref 0, .int (-1000007)] (mR A s r) = some (some (.int (-1000007)), mR (fnd A 6) s r) := (m_f6 (upA A 1 s) r).trans (by rw [fnd_up]; rfl)
theorem c_f0 (S : Nat → Nat → Int32) (s : Nat → Int32) (F : Nat → Nat → Int32) (rb : Nat) : rv_EV 95 [.ref 0, .int 0] (cR S 0 s F rb) = some (some (.int (-1000001)), cR S 0 s (cfd F 0) rb) := c_finding S s F rb (k := 0) (by decide)
theorem c_f1 (S : Nat → Nat → Int32) (s : Nat → Int32) (F : Nat → Nat → Int32) (rb : Nat) : rv_EV 95 [.ref 0, .int 1] (cR S 0 s F rb) = some (some (.int (-1000002)), cR S 0 s (cfd F 1) rb) := c_finding S s F rb (k := 1) (by decide)
theorem c_f2 (S : Nat → Nat → Int32) (s : Nat → Int32) (F : Nat → Nat → Int32) (rb : Nat) : rv_EV 95 [.ref 0, .int 2] (cR S 0 s F rb) = some (some (.int (-1000003)), cR S 0 s (cfd F 2) rb) := c_finding S s F rb (k := 2) (by decide)
theorem c_f3 (S : Nat → Nat → Int32) (s : Nat → Int32) (F : Nat → Nat → Int32) (rb : Nat) : rv_EV 95 [.ref 0, .int 3] (cR S 0 s F rb) = some (some (.int (-1000004)), cR S 0 s (cfd F 3) rb) := c_finding S s F rb (k := 3) (by decide)
theorem c_f4 (S : Nat → Nat → Int32) (s : Nat → Int32) (F : Nat → Nat → Int32) (rb : Nat) : rv_EV 95 [.ref 0, .int 4] (cR S 0 s F rb) = some (some (.int (-1000005)), cR S 0 s (cfd F 4) rb) := c_finding S s F rb (k := 4) (by decide)
theorem c_f5 (S : Nat → Nat → Int32) (s : Nat → Int32) (F : Nat → Nat → Int32) (rb : Nat) : rv_EV 95 [.ref 0, .int 5] (cR S 0 s F rb) = some (some (.int (-1000006)), cR S 0 s (cfd F 5) rb) := c_finding S s F rb (k := 5) (by decide)
theorem c_f6 (S : Nat → Nat → Int32) (s : Nat → Int32) (F : Nat → Nat → Int32) (rb : Nat) : rv_EV 95 [.ref 0, .int 6] (cR S 0 s F rb) = some (some (.int (-1000007)), cR S 0 s (cfd F 6) rb) := c_finding S s F rb (k := 6) (by decide)
/-! the class's tests -/
theorem c_isTub (x : Int32) (w : rv_W) : rv_EV 97 [.int x] w = some (some (.int (if 0 ≤ x ∧ x < 10 then 1 else 0)), w) := by
  rw [ev_X4_isTub]
  exact (ev_X5_isTub x w).symm.trans (m_isTub x w)
theorem c_isScent (x : Int32) (w : rv_W) : rv_EV 98 [.int x] w = some (some (.int (if 0 ≤ x ∧ x < 4 then 1 else 0)), w) := by
  rw [ev_X4_isScent]
  exact (ev_X5_isScent x w).symm.trans (m_isScent x w)
theorem c_isSpot (x : Int32) (w : rv_W) : rv_EV 99 [.int x] w = some (some (.int (if 0 ≤ x ∧ x < 10 then 1 else 0)), w) := by
  rw [ev_X4_isSpot]
  exact (ev_X5_isTub x w).symm.trans (m_isTub x w)
theorem c_isSheet (x : Int32) (w : rv_W) : rv_EV 100 [.int x] w = some (some (.int (if 0 ≤ x ∧ x < 4 then 1 else 0)), w) := by
  rw [ev_X4_isSheet]
  exact (ev_X5_isScent x w).symm.trans (m_isScent x w)
theorem c_isWithin (x m : Int32) (w : rv_W) : rv_EV 96 [.int x, .int m] w = some (some (.int (if 0 ≤ x ∧ x ≤ m then 1 else 0)), w) := by
  rw [ev_X4_isWithin]
  simp only [cb_eq, cb_ne, cb_lt, cb_ge, cb_gt, cb_le, cb_q, cb_qL, ri_s, rl_s, rr_s, rv_s, Option.bind_some, i10, cond_true, cond_false]
  by_cases h1 : x < 0
  · rw [if_pos h1, if_neg (fun q => absurd h1 (Int32.not_lt.mpr q.1))]
  · rw [if_neg h1]
    by_cases h2 : m < x
    · rw [if_pos h2, if_neg (fun q => absurd h2 (Int32.not_lt.mpr q.2))]
    · rw [if_neg h2, if_pos ⟨Int32.not_lt.mp h1, Int32.not_lt.mp h2⟩]
end
